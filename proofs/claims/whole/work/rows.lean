section
-- ===== PART A: goes FIRST, ahead of the names: the tables' words, and 'selects' of the private methods out of them =====
/-- a private method of a class that the tables say can be made, by its rows of tables_1 -/
def lw_okq (q : MethodName × Nat) : Prop := (q.1.cls ≠ "java/lang/invoke/MethodHandle" ∧ q.1.cls ≠ "java/lang/invoke/VarHandle") ∧ Cond.instantiable q.1.cls q.2 ∈ tables_1 ∧ Cond.privateMethod q.1 ∈ tables_1 ∧ Cond.instanceMethod q.1 ∈ tables_1
theorem lw_p0 : lw_okq (⟨"SnowSuits$Text", "readItem", "(ILSnowSuits$Plan;)I"⟩, 2) := ⟨⟨by decide +kernel, by decide +kernel⟩, List.mem_of_getElem? (i := 26) (by decide +kernel), List.mem_of_getElem? (i := 296) (by decide +kernel), List.mem_of_getElem? (i := 297) (by decide +kernel)⟩
theorem lw_p1 : lw_okq (⟨"SnowSuits$Text", "letterAt", "(I)C"⟩, 2) := ⟨⟨by decide +kernel, by decide +kernel⟩, List.mem_of_getElem? (i := 26) (by decide +kernel), List.mem_of_getElem? (i := 300) (by decide +kernel), List.mem_of_getElem? (i := 301) (by decide +kernel)⟩
theorem lw_p2 : lw_okq (⟨"SnowSuits$Text", "numberAt", "(I)I"⟩, 2) := ⟨⟨by decide +kernel, by decide +kernel⟩, List.mem_of_getElem? (i := 26) (by decide +kernel), List.mem_of_getElem? (i := 304) (by decide +kernel), List.mem_of_getElem? (i := 305) (by decide +kernel)⟩
theorem lw_p3 : lw_okq (⟨"SnowSuits$Text", "figuresAt", "(I)I"⟩, 2) := ⟨⟨by decide +kernel, by decide +kernel⟩, List.mem_of_getElem? (i := 26) (by decide +kernel), List.mem_of_getElem? (i := 308) (by decide +kernel), List.mem_of_getElem? (i := 309) (by decide +kernel)⟩
theorem lw_p4 : lw_okq (⟨"SnowSuits$Plan", "tellChild", "(II)Z"⟩, 7) := ⟨⟨by decide +kernel, by decide +kernel⟩, List.mem_of_getElem? (i := 41) (by decide +kernel), List.mem_of_getElem? (i := 319) (by decide +kernel), List.mem_of_getElem? (i := 320) (by decide +kernel)⟩
theorem lw_p5 : lw_okq (⟨"SnowSuits$Plan", "tellNumber", "(CI)Z"⟩, 7) := ⟨⟨by decide +kernel, by decide +kernel⟩, List.mem_of_getElem? (i := 41) (by decide +kernel), List.mem_of_getElem? (i := 323) (by decide +kernel), List.mem_of_getElem? (i := 324) (by decide +kernel)⟩
theorem lw_p6 : lw_okq (⟨"SnowSuits$Hall", "hottest", "()I"⟩, 11) := ⟨⟨by decide +kernel, by decide +kernel⟩, List.mem_of_getElem? (i := 83) (by decide +kernel), List.mem_of_getElem? (i := 494) (by decide +kernel), List.mem_of_getElem? (i := 495) (by decide +kernel)⟩
theorem lw_p7 : lw_okq (⟨"SnowSuits$Hall", "heat", "()I"⟩, 11) := ⟨⟨by decide +kernel, by decide +kernel⟩, List.mem_of_getElem? (i := 83) (by decide +kernel), List.mem_of_getElem? (i := 506) (by decide +kernel), List.mem_of_getElem? (i := 507) (by decide +kernel)⟩
theorem lw_p8 : lw_okq (⟨"SnowSuits$Hall", "work", "()V"⟩, 11) := ⟨⟨by decide +kernel, by decide +kernel⟩, List.mem_of_getElem? (i := 83) (by decide +kernel), List.mem_of_getElem? (i := 510) (by decide +kernel), List.mem_of_getElem? (i := 511) (by decide +kernel)⟩
theorem lw_p9 : lw_okq (⟨"SnowSuits$Hall", "finish", "(I)V"⟩, 11) := ⟨⟨by decide +kernel, by decide +kernel⟩, List.mem_of_getElem? (i := 83) (by decide +kernel), List.mem_of_getElem? (i := 514) (by decide +kernel), List.mem_of_getElem? (i := 515) (by decide +kernel)⟩
theorem lw_p10 : lw_okq (⟨"SnowSuits$Course", "openDoors", "()V"⟩, 4) := ⟨⟨by decide +kernel, by decide +kernel⟩, List.mem_of_getElem? (i := 157) (by decide +kernel), List.mem_of_getElem? (i := 546) (by decide +kernel), List.mem_of_getElem? (i := 547) (by decide +kernel)⟩
theorem lw_p11 : lw_okq (⟨"SnowSuits$Course", "doorIsDue", "()Z"⟩, 4) := ⟨⟨by decide +kernel, by decide +kernel⟩, List.mem_of_getElem? (i := 157) (by decide +kernel), List.mem_of_getElem? (i := 550) (by decide +kernel), List.mem_of_getElem? (i := 551) (by decide +kernel)⟩
theorem lw_p12 : lw_okq (⟨"SnowSuits$Course", "dressByRow", "([I)V"⟩, 4) := ⟨⟨by decide +kernel, by decide +kernel⟩, List.mem_of_getElem? (i := 157) (by decide +kernel), List.mem_of_getElem? (i := 566) (by decide +kernel), List.mem_of_getElem? (i := 567) (by decide +kernel)⟩
theorem lw_p13 : lw_okq (⟨"SnowSuits$Course", "firstBare", "([I)I"⟩, 4) := ⟨⟨by decide +kernel, by decide +kernel⟩, List.mem_of_getElem? (i := 157) (by decide +kernel), List.mem_of_getElem? (i := 571) (by decide +kernel), List.mem_of_getElem? (i := 572) (by decide +kernel)⟩
theorem lw_p14 : lw_okq (⟨"SnowSuits$Search", "isBetter", "()Z"⟩, 7) := ⟨⟨by decide +kernel, by decide +kernel⟩, List.mem_of_getElem? (i := 183) (by decide +kernel), List.mem_of_getElem? (i := 591) (by decide +kernel), List.mem_of_getElem? (i := 592) (by decide +kernel)⟩
theorem lw_p15 : lw_okq (⟨"SnowSuits$Search", "nextRow", "()Z"⟩, 7) := ⟨⟨by decide +kernel, by decide +kernel⟩, List.mem_of_getElem? (i := 183) (by decide +kernel), List.mem_of_getElem? (i := 595) (by decide +kernel), List.mem_of_getElem? (i := 596) (by decide +kernel)⟩
def lw_privs_1 : List (MethodName × Nat) := [(⟨"SnowSuits$Text", "readItem", "(ILSnowSuits$Plan;)I"⟩, 2), (⟨"SnowSuits$Text", "letterAt", "(I)C"⟩, 2), (⟨"SnowSuits$Text", "numberAt", "(I)I"⟩, 2), (⟨"SnowSuits$Text", "figuresAt", "(I)I"⟩, 2), (⟨"SnowSuits$Plan", "tellChild", "(II)Z"⟩, 7), (⟨"SnowSuits$Plan", "tellNumber", "(CI)Z"⟩, 7), (⟨"SnowSuits$Hall", "hottest", "()I"⟩, 11), (⟨"SnowSuits$Hall", "heat", "()I"⟩, 11), (⟨"SnowSuits$Hall", "work", "()V"⟩, 11), (⟨"SnowSuits$Hall", "finish", "(I)V"⟩, 11), (⟨"SnowSuits$Course", "openDoors", "()V"⟩, 4), (⟨"SnowSuits$Course", "doorIsDue", "()Z"⟩, 4), (⟨"SnowSuits$Course", "dressByRow", "([I)V"⟩, 4), (⟨"SnowSuits$Course", "firstBare", "([I)I"⟩, 4), (⟨"SnowSuits$Search", "isBetter", "()Z"⟩, 7), (⟨"SnowSuits$Search", "nextRow", "()Z"⟩, 7)]
theorem lw_r1 : ∀ q ∈ lw_privs_1, lw_okq q := List.forall_mem_cons.mpr ⟨lw_p0, List.forall_mem_cons.mpr ⟨lw_p1, List.forall_mem_cons.mpr ⟨lw_p2, List.forall_mem_cons.mpr ⟨lw_p3, List.forall_mem_cons.mpr ⟨lw_p4, List.forall_mem_cons.mpr ⟨lw_p5, List.forall_mem_cons.mpr ⟨lw_p6, List.forall_mem_cons.mpr ⟨lw_p7, List.forall_mem_cons.mpr ⟨lw_p8, List.forall_mem_cons.mpr ⟨lw_p9, List.forall_mem_cons.mpr ⟨lw_p10, List.forall_mem_cons.mpr ⟨lw_p11, List.forall_mem_cons.mpr ⟨lw_p12, List.forall_mem_cons.mpr ⟨lw_p13, List.forall_mem_cons.mpr ⟨lw_p14, List.forall_mem_cons.mpr ⟨lw_p15, fun _ h => absurd h List.not_mem_nil⟩⟩⟩⟩⟩⟩⟩⟩⟩⟩⟩⟩⟩⟩⟩⟩
theorem lw_p16 : lw_okq (⟨"SnowSuits$Search", "swap", "(II)V"⟩, 7) := ⟨⟨by decide +kernel, by decide +kernel⟩, List.mem_of_getElem? (i := 183) (by decide +kernel), List.mem_of_getElem? (i := 600) (by decide +kernel), List.mem_of_getElem? (i := 601) (by decide +kernel)⟩
theorem lw_p17 : lw_okq (⟨"SnowSuits$Search", "makeRowWithLast", "(I)V"⟩, 7) := ⟨⟨by decide +kernel, by decide +kernel⟩, List.mem_of_getElem? (i := 183) (by decide +kernel), List.mem_of_getElem? (i := 613) (by decide +kernel), List.mem_of_getElem? (i := 614) (by decide +kernel)⟩
theorem lw_p18 : lw_okq (⟨"SnowSuitsModel", "begins", "()V"⟩, 16) := ⟨⟨by decide +kernel, by decide +kernel⟩, List.mem_of_getElem? (i := 709) (by decide +kernel), List.mem_of_getElem? (i := 715) (by decide +kernel), List.mem_of_getElem? (i := 716) (by decide +kernel)⟩
theorem lw_p19 : lw_okq (⟨"SnowSuitsModel", "childOf", "(II)V"⟩, 16) := ⟨⟨by decide +kernel, by decide +kernel⟩, List.mem_of_getElem? (i := 709) (by decide +kernel), List.mem_of_getElem? (i := 719) (by decide +kernel), List.mem_of_getElem? (i := 720) (by decide +kernel)⟩
theorem lw_p20 : lw_okq (⟨"SnowSuitsModel", "lays", "()V"⟩, 16) := ⟨⟨by decide +kernel, by decide +kernel⟩, List.mem_of_getElem? (i := 709) (by decide +kernel), List.mem_of_getElem? (i := 723) (by decide +kernel), List.mem_of_getElem? (i := 724) (by decide +kernel)⟩
theorem lw_p21 : lw_okq (⟨"SnowSuitsModel", "starts", "()V"⟩, 16) := ⟨⟨by decide +kernel, by decide +kernel⟩, List.mem_of_getElem? (i := 709) (by decide +kernel), List.mem_of_getElem? (i := 727) (by decide +kernel), List.mem_of_getElem? (i := 728) (by decide +kernel)⟩
theorem lw_p22 : lw_okq (⟨"SnowSuitsModel", "readsAll", "()I"⟩, 16) := ⟨⟨by decide +kernel, by decide +kernel⟩, List.mem_of_getElem? (i := 709) (by decide +kernel), List.mem_of_getElem? (i := 795) (by decide +kernel), List.mem_of_getElem? (i := 796) (by decide +kernel)⟩
theorem lw_p23 : lw_okq (⟨"SnowSuitsModel", "readsItem", "(I)Z"⟩, 16) := ⟨⟨by decide +kernel, by decide +kernel⟩, List.mem_of_getElem? (i := 709) (by decide +kernel), List.mem_of_getElem? (i := 799) (by decide +kernel), List.mem_of_getElem? (i := 800) (by decide +kernel)⟩
theorem lw_p24 : lw_okq (⟨"SnowSuitsModel", "number", "(III)I"⟩, 16) := ⟨⟨by decide +kernel, by decide +kernel⟩, List.mem_of_getElem? (i := 709) (by decide +kernel), List.mem_of_getElem? (i := 803) (by decide +kernel), List.mem_of_getElem? (i := 804) (by decide +kernel)⟩
theorem lw_p25 : lw_okq (⟨"SnowSuitsModel", "letterAt", "(I)I"⟩, 16) := ⟨⟨by decide +kernel, by decide +kernel⟩, List.mem_of_getElem? (i := 709) (by decide +kernel), List.mem_of_getElem? (i := 807) (by decide +kernel), List.mem_of_getElem? (i := 808) (by decide +kernel)⟩
theorem lw_p26 : lw_okq (⟨"SnowSuitsModel", "one", "(II)Z"⟩, 16) := ⟨⟨by decide +kernel, by decide +kernel⟩, List.mem_of_getElem? (i := 709) (by decide +kernel), List.mem_of_getElem? (i := 814) (by decide +kernel), List.mem_of_getElem? (i := 815) (by decide +kernel)⟩
theorem lw_p27 : lw_okq (⟨"SnowSuitsModel", "isChild", "(I)Z"⟩, 16) := ⟨⟨by decide +kernel, by decide +kernel⟩, List.mem_of_getElem? (i := 709) (by decide +kernel), List.mem_of_getElem? (i := 826) (by decide +kernel), List.mem_of_getElem? (i := 827) (by decide +kernel)⟩
theorem lw_p28 : lw_okq (⟨"SnowSuitsModel", "whoHas", "(I)I"⟩, 16) := ⟨⟨by decide +kernel, by decide +kernel⟩, List.mem_of_getElem? (i := 709) (by decide +kernel), List.mem_of_getElem? (i := 830) (by decide +kernel), List.mem_of_getElem? (i := 831) (by decide +kernel)⟩
theorem lw_p29 : lw_okq (⟨"SnowSuitsModel", "minutesOf", "(I)I"⟩, 16) := ⟨⟨by decide +kernel, by decide +kernel⟩, List.mem_of_getElem? (i := 709) (by decide +kernel), List.mem_of_getElem? (i := 834) (by decide +kernel), List.mem_of_getElem? (i := 835) (by decide +kernel)⟩
theorem lw_p30 : lw_okq (⟨"SnowSuitsModel", "isWoman", "(I)Z"⟩, 16) := ⟨⟨by decide +kernel, by decide +kernel⟩, List.mem_of_getElem? (i := 709) (by decide +kernel), List.mem_of_getElem? (i := 845) (by decide +kernel), List.mem_of_getElem? (i := 846) (by decide +kernel)⟩
theorem lw_p31 : lw_okq (⟨"SnowSuitsModel", "keeps", "()V"⟩, 16) := ⟨⟨by decide +kernel, by decide +kernel⟩, List.mem_of_getElem? (i := 709) (by decide +kernel), List.mem_of_getElem? (i := 853) (by decide +kernel), List.mem_of_getElem? (i := 854) (by decide +kernel)⟩
def lw_privs_2 : List (MethodName × Nat) := [(⟨"SnowSuits$Search", "swap", "(II)V"⟩, 7), (⟨"SnowSuits$Search", "makeRowWithLast", "(I)V"⟩, 7), (⟨"SnowSuitsModel", "begins", "()V"⟩, 16), (⟨"SnowSuitsModel", "childOf", "(II)V"⟩, 16), (⟨"SnowSuitsModel", "lays", "()V"⟩, 16), (⟨"SnowSuitsModel", "starts", "()V"⟩, 16), (⟨"SnowSuitsModel", "readsAll", "()I"⟩, 16), (⟨"SnowSuitsModel", "readsItem", "(I)Z"⟩, 16), (⟨"SnowSuitsModel", "number", "(III)I"⟩, 16), (⟨"SnowSuitsModel", "letterAt", "(I)I"⟩, 16), (⟨"SnowSuitsModel", "one", "(II)Z"⟩, 16), (⟨"SnowSuitsModel", "isChild", "(I)Z"⟩, 16), (⟨"SnowSuitsModel", "whoHas", "(I)I"⟩, 16), (⟨"SnowSuitsModel", "minutesOf", "(I)I"⟩, 16), (⟨"SnowSuitsModel", "isWoman", "(I)Z"⟩, 16), (⟨"SnowSuitsModel", "keeps", "()V"⟩, 16)]
theorem lw_r2 : ∀ q ∈ lw_privs_2, lw_okq q := List.forall_mem_cons.mpr ⟨lw_p16, List.forall_mem_cons.mpr ⟨lw_p17, List.forall_mem_cons.mpr ⟨lw_p18, List.forall_mem_cons.mpr ⟨lw_p19, List.forall_mem_cons.mpr ⟨lw_p20, List.forall_mem_cons.mpr ⟨lw_p21, List.forall_mem_cons.mpr ⟨lw_p22, List.forall_mem_cons.mpr ⟨lw_p23, List.forall_mem_cons.mpr ⟨lw_p24, List.forall_mem_cons.mpr ⟨lw_p25, List.forall_mem_cons.mpr ⟨lw_p26, List.forall_mem_cons.mpr ⟨lw_p27, List.forall_mem_cons.mpr ⟨lw_p28, List.forall_mem_cons.mpr ⟨lw_p29, List.forall_mem_cons.mpr ⟨lw_p30, List.forall_mem_cons.mpr ⟨lw_p31, fun _ h => absurd h List.not_mem_nil⟩⟩⟩⟩⟩⟩⟩⟩⟩⟩⟩⟩⟩⟩⟩⟩
theorem lw_p32 : lw_okq (⟨"SnowSuitsModel", "dresses", "(II)V"⟩, 16) := ⟨⟨by decide +kernel, by decide +kernel⟩, List.mem_of_getElem? (i := 709) (by decide +kernel), List.mem_of_getElem? (i := 857) (by decide +kernel), List.mem_of_getElem? (i := 858) (by decide +kernel)⟩
theorem lw_p33 : lw_okq (⟨"SnowSuitsModel", "begin", "(IIII)V"⟩, 16) := ⟨⟨by decide +kernel, by decide +kernel⟩, List.mem_of_getElem? (i := 709) (by decide +kernel), List.mem_of_getElem? (i := 861) (by decide +kernel), List.mem_of_getElem? (i := 862) (by decide +kernel)⟩
theorem lw_p34 : lw_okq (⟨"SnowSuitsModel", "isLaid", "()Z"⟩, 16) := ⟨⟨by decide +kernel, by decide +kernel⟩, List.mem_of_getElem? (i := 709) (by decide +kernel), List.mem_of_getElem? (i := 869) (by decide +kernel), List.mem_of_getElem? (i := 870) (by decide +kernel)⟩
theorem lw_p35 : lw_okq (⟨"SnowSuitsModel", "children", "(I)I"⟩, 16) := ⟨⟨by decide +kernel, by decide +kernel⟩, List.mem_of_getElem? (i := 709) (by decide +kernel), List.mem_of_getElem? (i := 877) (by decide +kernel), List.mem_of_getElem? (i := 878) (by decide +kernel)⟩
theorem lw_p36 : lw_okq (⟨"SnowSuitsModel", "how", "(III)I"⟩, 16) := ⟨⟨by decide +kernel, by decide +kernel⟩, List.mem_of_getElem? (i := 709) (by decide +kernel), List.mem_of_getElem? (i := 881) (by decide +kernel), List.mem_of_getElem? (i := 882) (by decide +kernel)⟩
theorem lw_p37 : lw_okq (⟨"SnowSuitsModel", "opens", "(I)I"⟩, 16) := ⟨⟨by decide +kernel, by decide +kernel⟩, List.mem_of_getElem? (i := 709) (by decide +kernel), List.mem_of_getElem? (i := 885) (by decide +kernel), List.mem_of_getElem? (i := 886) (by decide +kernel)⟩
theorem lw_p38 : lw_okq (⟨"SnowSuitsModel", "notOut", "()I"⟩, 16) := ⟨⟨by decide +kernel, by decide +kernel⟩, List.mem_of_getElem? (i := 709) (by decide +kernel), List.mem_of_getElem? (i := 889) (by decide +kernel), List.mem_of_getElem? (i := 890) (by decide +kernel)⟩
theorem lw_p39 : lw_okq (⟨"SnowSuitsModel", "passes", "()I"⟩, 16) := ⟨⟨by decide +kernel, by decide +kernel⟩, List.mem_of_getElem? (i := 709) (by decide +kernel), List.mem_of_getElem? (i := 897) (by decide +kernel), List.mem_of_getElem? (i := 898) (by decide +kernel)⟩
theorem lw_p40 : lw_okq (⟨"SnowSuitsModel", "holds", "()V"⟩, 16) := ⟨⟨by decide +kernel, by decide +kernel⟩, List.mem_of_getElem? (i := 709) (by decide +kernel), List.mem_of_getElem? (i := 909) (by decide +kernel), List.mem_of_getElem? (i := 910) (by decide +kernel)⟩
theorem lw_p41 : lw_okq (⟨"SnowSuitsModel", "goesBut", "(I)I"⟩, 16) := ⟨⟨by decide +kernel, by decide +kernel⟩, List.mem_of_getElem? (i := 709) (by decide +kernel), List.mem_of_getElem? (i := 913) (by decide +kernel), List.mem_of_getElem? (i := 914) (by decide +kernel)⟩
theorem lw_p42 : lw_okq (⟨"SnowSuitsModel", "goes", "()I"⟩, 16) := ⟨⟨by decide +kernel, by decide +kernel⟩, List.mem_of_getElem? (i := 709) (by decide +kernel), List.mem_of_getElem? (i := 917) (by decide +kernel), List.mem_of_getElem? (i := 918) (by decide +kernel)⟩
theorem lw_p43 : lw_okq (⟨"SnowSuitsModel", "mayOpen", "()Z"⟩, 16) := ⟨⟨by decide +kernel, by decide +kernel⟩, List.mem_of_getElem? (i := 709) (by decide +kernel), List.mem_of_getElem? (i := 921) (by decide +kernel), List.mem_of_getElem? (i := 922) (by decide +kernel)⟩
theorem lw_p44 : lw_okq (⟨"SnowSuitsModel", "highestFree", "()I"⟩, 16) := ⟨⟨by decide +kernel, by decide +kernel⟩, List.mem_of_getElem? (i := 709) (by decide +kernel), List.mem_of_getElem? (i := 925) (by decide +kernel), List.mem_of_getElem? (i := 926) (by decide +kernel)⟩
theorem lw_p45 : lw_okq (⟨"SnowSuitsModel", "takesRow", "()V"⟩, 16) := ⟨⟨by decide +kernel, by decide +kernel⟩, List.mem_of_getElem? (i := 709) (by decide +kernel), List.mem_of_getElem? (i := 929) (by decide +kernel), List.mem_of_getElem? (i := 930) (by decide +kernel)⟩
theorem lw_p46 : lw_okq (⟨"SnowSuitsModel", "lets", "()V"⟩, 16) := ⟨⟨by decide +kernel, by decide +kernel⟩, List.mem_of_getElem? (i := 709) (by decide +kernel), List.mem_of_getElem? (i := 933) (by decide +kernel), List.mem_of_getElem? (i := 934) (by decide +kernel)⟩
theorem lw_p47 : lw_okq (⟨"SnowSuitsModel", "isRow", "(I)Z"⟩, 16) := ⟨⟨by decide +kernel, by decide +kernel⟩, List.mem_of_getElem? (i := 709) (by decide +kernel), List.mem_of_getElem? (i := 941) (by decide +kernel), List.mem_of_getElem? (i := 942) (by decide +kernel)⟩
def lw_privs_3 : List (MethodName × Nat) := [(⟨"SnowSuitsModel", "dresses", "(II)V"⟩, 16), (⟨"SnowSuitsModel", "begin", "(IIII)V"⟩, 16), (⟨"SnowSuitsModel", "isLaid", "()Z"⟩, 16), (⟨"SnowSuitsModel", "children", "(I)I"⟩, 16), (⟨"SnowSuitsModel", "how", "(III)I"⟩, 16), (⟨"SnowSuitsModel", "opens", "(I)I"⟩, 16), (⟨"SnowSuitsModel", "notOut", "()I"⟩, 16), (⟨"SnowSuitsModel", "passes", "()I"⟩, 16), (⟨"SnowSuitsModel", "holds", "()V"⟩, 16), (⟨"SnowSuitsModel", "goesBut", "(I)I"⟩, 16), (⟨"SnowSuitsModel", "goes", "()I"⟩, 16), (⟨"SnowSuitsModel", "mayOpen", "()Z"⟩, 16), (⟨"SnowSuitsModel", "highestFree", "()I"⟩, 16), (⟨"SnowSuitsModel", "takesRow", "()V"⟩, 16), (⟨"SnowSuitsModel", "lets", "()V"⟩, 16), (⟨"SnowSuitsModel", "isRow", "(I)Z"⟩, 16)]
theorem lw_r3 : ∀ q ∈ lw_privs_3, lw_okq q := List.forall_mem_cons.mpr ⟨lw_p32, List.forall_mem_cons.mpr ⟨lw_p33, List.forall_mem_cons.mpr ⟨lw_p34, List.forall_mem_cons.mpr ⟨lw_p35, List.forall_mem_cons.mpr ⟨lw_p36, List.forall_mem_cons.mpr ⟨lw_p37, List.forall_mem_cons.mpr ⟨lw_p38, List.forall_mem_cons.mpr ⟨lw_p39, List.forall_mem_cons.mpr ⟨lw_p40, List.forall_mem_cons.mpr ⟨lw_p41, List.forall_mem_cons.mpr ⟨lw_p42, List.forall_mem_cons.mpr ⟨lw_p43, List.forall_mem_cons.mpr ⟨lw_p44, List.forall_mem_cons.mpr ⟨lw_p45, List.forall_mem_cons.mpr ⟨lw_p46, List.forall_mem_cons.mpr ⟨lw_p47, fun _ h => absurd h List.not_mem_nil⟩⟩⟩⟩⟩⟩⟩⟩⟩⟩⟩⟩⟩⟩⟩⟩
theorem lw_p48 : lw_okq (⟨"SnowSuitsModel", "lowestFree", "()I"⟩, 16) := ⟨⟨by decide +kernel, by decide +kernel⟩, List.mem_of_getElem? (i := 709) (by decide +kernel), List.mem_of_getElem? (i := 953) (by decide +kernel), List.mem_of_getElem? (i := 954) (by decide +kernel)⟩
theorem lw_p49 : lw_okq (⟨"SnowSuitsModel", "isSo", "(III)Z"⟩, 16) := ⟨⟨by decide +kernel, by decide +kernel⟩, List.mem_of_getElem? (i := 709) (by decide +kernel), List.mem_of_getElem? (i := 973) (by decide +kernel), List.mem_of_getElem? (i := 974) (by decide +kernel)⟩
theorem lw_p50 : lw_okq (⟨"SnowSuitsModel", "turn", "(I)I"⟩, 16) := ⟨⟨by decide +kernel, by decide +kernel⟩, List.mem_of_getElem? (i := 709) (by decide +kernel), List.mem_of_getElem? (i := 992) (by decide +kernel), List.mem_of_getElem? (i := 993) (by decide +kernel)⟩
def lw_privs_4 : List (MethodName × Nat) := [(⟨"SnowSuitsModel", "lowestFree", "()I"⟩, 16), (⟨"SnowSuitsModel", "isSo", "(III)Z"⟩, 16), (⟨"SnowSuitsModel", "turn", "(I)I"⟩, 16)]
theorem lw_r4 : ∀ q ∈ lw_privs_4, lw_okq q := List.forall_mem_cons.mpr ⟨lw_p48, List.forall_mem_cons.mpr ⟨lw_p49, List.forall_mem_cons.mpr ⟨lw_p50, fun _ h => absurd h List.not_mem_nil⟩⟩⟩
def lw_privs : List (MethodName × Nat) := lw_privs_1 ++ (lw_privs_2 ++ (lw_privs_3 ++ (lw_privs_4)))
def lw_tbl : List Cond := k2_sels lw_privs ++ tables_1
theorem lw_privs_ok : ∀ q ∈ lw_privs, lw_okq q := by
  show ∀ q ∈ lw_privs_1 ++ (lw_privs_2 ++ (lw_privs_3 ++ (lw_privs_4))), lw_okq q
  exact List.forall_mem_append.mpr ⟨lw_r1, List.forall_mem_append.mpr ⟨lw_r2, List.forall_mem_append.mpr ⟨lw_r3, lw_r4⟩⟩⟩
end
section
/-! ===== BEGIN words of one list among another's, by their places ===== -/
theorem goodIn_r {big : List Cond} (ws : List Cond) (ps : List Nat) (hp : ws = ps.filterMap (fun i => big[i]?)) (h : ws.all goodWord = true) : GoodIn big ws := by
  intro w hw
  have h1 := List.all_eq_true.mp h w hw
  rw [hp] at hw
  obtain ⟨i, -, hi⟩ := List.mem_filterMap.mp hw
  have hm : w ∈ big := by first | exact List.mem_of_getElem? hi | exact List.getElem?_mem hi
  exact ⟨hm, good_of_word h1⟩
theorem goodIn_app {big a b : List Cond} (ha : GoodIn big a) (hb : GoodIn big b) : GoodIn big (a ++ b) := fun w h => (List.mem_append.mp h).elim (ha w) (hb w)
theorem goodIn_ca {big a b : List Cond} {c : Cond} (ha : GoodIn big (c :: a)) (hb : GoodIn big b) : GoodIn big (c :: (a ++ b)) := fun w h => (List.mem_cons.mp h).elim (fun e => ha w (List.mem_cons.mpr (Or.inl e))) (fun h => (List.mem_append.mp h).elim (fun h => ha w (List.mem_cons.mpr (Or.inr h))) (hb w))
theorem goodIn_sub {big ws : List Cond} (hm : ∀ w ∈ ws, w ∈ big) (h : ws.all goodWord = true) : GoodIn big ws := fun w hw => ⟨hm w hw, good_of_word (List.all_eq_true.mp h w hw)⟩
/-! ===== END ===== -/

/-! ===== BEGIN printed: names, fields, word lists, decode rows ===== -/
def RX0 : String := "SnowSuits$Chance"
def TX0 : u_T := fun k => match k with
  | _ => ("", "", "", false)
def tyX0 : Nat → FieldType := fun k => match k with
  | _ => .int
abbrev wsX00 : List Cond := u_ws RX0 TX0 0
theorem nmX0 : ∀ a, a < 0 → ∀ b, b < 0 → a ≠ b → (TX0 a).2.1 ≠ (TX0 b).2.1 := by decide +kernel
theorem tyX0_ok : ∀ k, k < 0 → parseFieldDescriptor (TX0 k).2.2.1 = some (tyX0 k) := by decide +kernel
abbrev cX0_waysOfSoMany : ByteArray := prog_2_method_2_code
def yX0_waysOfSoMany : MethodName := ⟨RX0, "waysOfSoMany", "(III)I"⟩
abbrev cX0_choose : ByteArray := prog_2_method_3_code
def yX0_choose : MethodName := ⟨RX0, "choose", "(II)I"⟩
abbrev cX0_power : ByteArray := prog_2_method_4_code
def yX0_power : MethodName := ⟨RX0, "power", "(II)I"⟩
abbrev cX0_commonDivisor : ByteArray := prog_2_method_5_code
def yX0_commonDivisor : MethodName := ⟨RX0, "commonDivisor", "(II)I"⟩
def RX1 : String := "SnowSuits$Course"
def TX1 : u_T := fun k => match k with
  | 0 => ("SnowSuits$Course", "plan", "LSnowSuits$Plan;", true)
  | 1 => ("SnowSuits$Course", "trial", "LSnowSuits$Hall;", true)
  | 2 => ("SnowSuits$Course", "minutes", "I", false)
  | _ => ("SnowSuits$Course", "boils", "I", false)
def tyX1 : Nat → FieldType := fun k => match k with
  | 0 => .object "SnowSuits$Plan"
  | 1 => .object "SnowSuits$Hall"
  | 2 => .int
  | _ => .int
abbrev wsX10 : List Cond := u_ws RX1 TX1 4
theorem nmX1 : ∀ a, a < 4 → ∀ b, b < 4 → a ≠ b → (TX1 a).2.1 ≠ (TX1 b).2.1 := by decide +kernel
theorem tyX1_ok : ∀ k, k < 4 → parseFieldDescriptor (TX1 k).2.2.1 = some (tyX1 k) := by decide +kernel
abbrev cX1_init : ByteArray := prog_3_method_1_code
def yX1_init : MethodName := ⟨RX1, "<init>", "(LSnowSuits$Plan;)V"⟩
abbrev cX1_startFrom : ByteArray := prog_3_method_2_code
def yX1_startFrom : MethodName := ⟨RX1, "startFrom", "(LSnowSuits$Hall;)V"⟩
abbrev cX1_minutesTillLunch : ByteArray := prog_3_method_3_code
def yX1_minutesTillLunch : MethodName := ⟨RX1, "minutesTillLunch", "()I"⟩
abbrev cX1_goOn : ByteArray := prog_3_method_4_code
def yX1_goOn : MethodName := ⟨RX1, "goOn", "([II)V"⟩
abbrev cX1_openDoors : ByteArray := prog_3_method_5_code
def yX1_openDoors : MethodName := ⟨RX1, "openDoors", "()V"⟩
abbrev cX1_doorIsDue : ByteArray := prog_3_method_6_code
def yX1_doorIsDue : MethodName := ⟨RX1, "doorIsDue", "()Z"⟩
abbrev cX1_dressByRow : ByteArray := prog_3_method_7_code
def yX1_dressByRow : MethodName := ⟨RX1, "dressByRow", "([I)V"⟩
abbrev cX1_firstBare : ByteArray := prog_3_method_8_code
def yX1_firstBare : MethodName := ⟨RX1, "firstBare", "([I)I"⟩
abbrev cX1_goByDraws : ByteArray := prog_3_method_9_code
def yX1_goByDraws : MethodName := ⟨RX1, "goByDraws", "(II)V"⟩
abbrev cX1_draw : ByteArray := prog_3_method_10_code
def yX1_draw : MethodName := ⟨RX1, "draw", "(II)I"⟩
def RX2 : String := "SnowSuits$Hall"
def TX2 : u_T := fun k => match k with
  | 0 => ("SnowSuits$Hall", "plan", "LSnowSuits$Plan;", true)
  | 1 => ("SnowSuits$Hall", "childIs", "[I", true)
  | 2 => ("SnowSuits$Hall", "hot", "[I", true)
  | 3 => ("SnowSuits$Hall", "boiled", "[I", true)
  | 4 => ("SnowSuits$Hall", "womanIs", "[I", true)
  | 5 => ("SnowSuits$Hall", "toDo", "[I", true)
  | 6 => ("SnowSuits$Hall", "inHands", "[I", true)
  | 7 => ("SnowSuits$Hall", "women", "I", false)
  | 8 => ("SnowSuits$Hall", "minute", "I", false)
  | 9 => ("SnowSuits$Hall", "laidOut", "Z", false)
  | _ => ("SnowSuits$Hall", "changes", "I", false)
def tyX2 : Nat → FieldType := fun k => match k with
  | 0 => .object "SnowSuits$Plan"
  | 1 => .array .int
  | 2 => .array .int
  | 3 => .array .int
  | 4 => .array .int
  | 5 => .array .int
  | 6 => .array .int
  | 7 => .int
  | 8 => .int
  | 9 => .boolean
  | _ => .int
abbrev wsX20 : List Cond := u_ws RX2 TX2 11
theorem nmX2 : ∀ a, a < 11 → ∀ b, b < 11 → a ≠ b → (TX2 a).2.1 ≠ (TX2 b).2.1 := by decide +kernel
theorem tyX2_ok : ∀ k, k < 11 → parseFieldDescriptor (TX2 k).2.2.1 = some (tyX2 k) := by decide +kernel
abbrev cX2_init : ByteArray := prog_4_method_1_code
def yX2_init : MethodName := ⟨RX2, "<init>", "(LSnowSuits$Plan;)V"⟩
abbrev cX2_startAgain : ByteArray := prog_4_method_2_code
def yX2_startAgain : MethodName := ⟨RX2, "startAgain", "(I)V"⟩
abbrev cX2_copyFrom : ByteArray := prog_4_method_3_code
def yX2_copyFrom : MethodName := ⟨RX2, "copyFrom", "(LSnowSuits$Hall;)V"⟩
abbrev cX2_hasWoman : ByteArray := prog_4_method_4_code
def yX2_hasWoman : MethodName := ⟨RX2, "hasWoman", "(I)Z"⟩
abbrev cX2_isFree : ByteArray := prog_4_method_5_code
def yX2_isFree : MethodName := ⟨RX2, "isFree", "(I)Z"⟩
abbrev cX2_isBare : ByteArray := prog_4_method_6_code
def yX2_isBare : MethodName := ⟨RX2, "isBare", "(I)Z"⟩
abbrev cX2_lowestFree : ByteArray := prog_4_method_7_code
def yX2_lowestFree : MethodName := ⟨RX2, "lowestFree", "()I"⟩
abbrev cX2_highestFree : ByteArray := prog_4_method_8_code
def yX2_highestFree : MethodName := ⟨RX2, "highestFree", "()I"⟩
abbrev cX2_countChildren : ByteArray := prog_4_method_9_code
def yX2_countChildren : MethodName := ⟨RX2, "countChildren", "(I)I"⟩
abbrev cX2_countWomen : ByteArray := prog_4_method_10_code
def yX2_countWomen : MethodName := ⟨RX2, "countWomen", "(I)I"⟩
abbrev cX2_oneWomanLeft : ByteArray := prog_4_method_11_code
def yX2_oneWomanLeft : MethodName := ⟨RX2, "oneWomanLeft", "()Z"⟩
abbrev cX2_allAreOut : ByteArray := prog_4_method_12_code
def yX2_allAreOut : MethodName := ⟨RX2, "allAreOut", "()Z"⟩
abbrev cX2_whoIsOut : ByteArray := prog_4_method_13_code
def yX2_whoIsOut : MethodName := ⟨RX2, "whoIsOut", "()I"⟩
abbrev cX2_boiledInAll : ByteArray := prog_4_method_14_code
def yX2_boiledInAll : MethodName := ⟨RX2, "boiledInAll", "()I"⟩
abbrev cX2_whoDresses : ByteArray := prog_4_method_15_code
def yX2_whoDresses : MethodName := ⟨RX2, "whoDresses", "(I)I"⟩
abbrev cX2_minutesToDress : ByteArray := prog_4_method_16_code
def yX2_minutesToDress : MethodName := ⟨RX2, "minutesToDress", "(I)I"⟩
abbrev cX2_canDress : ByteArray := prog_4_method_17_code
def yX2_canDress : MethodName := ⟨RX2, "canDress", "(II)Z"⟩
abbrev cX2_dress : ByteArray := prog_4_method_18_code
def yX2_dress : MethodName := ⟨RX2, "dress", "(II)I"⟩
abbrev cX2_canLayThings : ByteArray := prog_4_method_19_code
def yX2_canLayThings : MethodName := ⟨RX2, "canLayThings", "(I)Z"⟩
abbrev cX2_layThings : ByteArray := prog_4_method_20_code
def yX2_layThings : MethodName := ⟨RX2, "layThings", "(I)I"⟩
abbrev cX2_canOpenDoor : ByteArray := prog_4_method_21_code
def yX2_canOpenDoor : MethodName := ⟨RX2, "canOpenDoor", "(I)Z"⟩
abbrev cX2_openDoor : ByteArray := prog_4_method_22_code
def yX2_openDoor : MethodName := ⟨RX2, "openDoor", "(I)I"⟩
abbrev cX2_hottest : ByteArray := prog_4_method_23_code
def yX2_hottest : MethodName := ⟨RX2, "hottest", "()I"⟩
abbrev cX2_goMinute : ByteArray := prog_4_method_24_code
def yX2_goMinute : MethodName := ⟨RX2, "goMinute", "()I"⟩
abbrev cX2_heat : ByteArray := prog_4_method_25_code
def yX2_heat : MethodName := ⟨RX2, "heat", "()I"⟩
abbrev cX2_work : ByteArray := prog_4_method_26_code
def yX2_work : MethodName := ⟨RX2, "work", "()V"⟩
abbrev cX2_finish : ByteArray := prog_4_method_27_code
def yX2_finish : MethodName := ⟨RX2, "finish", "(I)V"⟩
def RX3 : String := "SnowSuits$Pile"
def TX3 : u_T := fun k => match k with
  | 0 => ("SnowSuits$Pile", "halls", "[LSnowSuits$Hall;", true)
  | 1 => ("SnowSuits$Pile", "top", "I", false)
  | _ => ("SnowSuits$Pile", "count", "I", false)
def tyX3 : Nat → FieldType := fun k => match k with
  | 0 => .array (.object "SnowSuits$Hall")
  | 1 => .int
  | _ => .int
abbrev wsX30 : List Cond := u_ws RX3 TX3 3
theorem nmX3 : ∀ a, a < 3 → ∀ b, b < 3 → a ≠ b → (TX3 a).2.1 ≠ (TX3 b).2.1 := by decide +kernel
theorem tyX3_ok : ∀ k, k < 3 → parseFieldDescriptor (TX3 k).2.2.1 = some (tyX3 k) := by decide +kernel
abbrev cX3_init : ByteArray := prog_5_method_1_code
def yX3_init : MethodName := ⟨RX3, "<init>", "(ILSnowSuits$Plan;)V"⟩
abbrev cX3_clear : ByteArray := prog_5_method_2_code
def yX3_clear : MethodName := ⟨RX3, "clear", "()V"⟩
abbrev cX3_push : ByteArray := prog_5_method_3_code
def yX3_push : MethodName := ⟨RX3, "push", "(LSnowSuits$Hall;)V"⟩
abbrev cX3_popInto : ByteArray := prog_5_method_4_code
def yX3_popInto : MethodName := ⟨RX3, "popInto", "(LSnowSuits$Hall;)V"⟩
def RX4 : String := "SnowSuits$Plan"
def TX4 : u_T := fun k => match k with
  | 0 => ("SnowSuits$Plan", "kind", "[I", true)
  | 1 => ("SnowSuits$Plan", "takes", "[I", true)
  | 2 => ("SnowSuits$Plan", "children", "I", false)
  | 3 => ("SnowSuits$Plan", "women", "I", false)
  | 4 => ("SnowSuits$Plan", "boilsAbove", "I", false)
  | 5 => ("SnowSuits$Plan", "goAtATime", "I", false)
  | _ => ("SnowSuits$Plan", "lunch", "I", false)
def tyX4 : Nat → FieldType := fun k => match k with
  | 0 => .array .int
  | 1 => .array .int
  | 2 => .int
  | 3 => .int
  | 4 => .int
  | 5 => .int
  | _ => .int
abbrev wsX40 : List Cond := u_ws RX4 TX4 7
theorem nmX4 : ∀ a, a < 7 → ∀ b, b < 7 → a ≠ b → (TX4 a).2.1 ≠ (TX4 b).2.1 := by decide +kernel
theorem tyX4_ok : ∀ k, k < 7 → parseFieldDescriptor (TX4 k).2.2.1 = some (tyX4 k) := by decide +kernel
abbrev cX4_init : ByteArray := prog_6_method_1_code
def yX4_init : MethodName := ⟨RX4, "<init>", "()V"⟩
abbrev cX4_clear : ByteArray := prog_6_method_2_code
def yX4_clear : MethodName := ⟨RX4, "clear", "()V"⟩
abbrev cX4_copyFrom : ByteArray := prog_6_method_3_code
def yX4_copyFrom : MethodName := ⟨RX4, "copyFrom", "(LSnowSuits$Plan;)V"⟩
abbrev cX4_hasChild : ByteArray := prog_6_method_4_code
def yX4_hasChild : MethodName := ⟨RX4, "hasChild", "(I)Z"⟩
abbrev cX4_tell : ByteArray := prog_6_method_5_code
def yX4_tell : MethodName := ⟨RX4, "tell", "(CII)Z"⟩
abbrev cX4_tellChild : ByteArray := prog_6_method_6_code
def yX4_tellChild : MethodName := ⟨RX4, "tellChild", "(II)Z"⟩
abbrev cX4_tellNumber : ByteArray := prog_6_method_7_code
def yX4_tellNumber : MethodName := ⟨RX4, "tellNumber", "(CI)Z"⟩
abbrev cX4_mostOf : ByteArray := prog_6_method_8_code
def yX4_mostOf : MethodName := ⟨RX4, "mostOf", "(C)I"⟩
abbrev cX4_minutesFor : ByteArray := prog_6_method_9_code
def yX4_minutesFor : MethodName := ⟨RX4, "minutesFor", "(IIZ)I"⟩
def RX5 : String := "SnowSuits$Search"
def TX5 : u_T := fun k => match k with
  | 0 => ("SnowSuits$Search", "plan", "LSnowSuits$Plan;", true)
  | 1 => ("SnowSuits$Search", "course", "LSnowSuits$Course;", true)
  | 2 => ("SnowSuits$Search", "row", "[I", true)
  | 3 => ("SnowSuits$Search", "bestRow", "[I", true)
  | 4 => ("SnowSuits$Search", "minutes", "I", false)
  | 5 => ("SnowSuits$Search", "boils", "I", false)
  | _ => ("SnowSuits$Search", "triedAt", "I", false)
def tyX5 : Nat → FieldType := fun k => match k with
  | 0 => .object "SnowSuits$Plan"
  | 1 => .object "SnowSuits$Course"
  | 2 => .array .int
  | 3 => .array .int
  | 4 => .int
  | 5 => .int
  | _ => .int
abbrev wsX50 : List Cond := u_ws RX5 TX5 7
theorem nmX5 : ∀ a, a < 7 → ∀ b, b < 7 → a ≠ b → (TX5 a).2.1 ≠ (TX5 b).2.1 := by decide +kernel
theorem tyX5_ok : ∀ k, k < 7 → parseFieldDescriptor (TX5 k).2.2.1 = some (tyX5 k) := by decide +kernel
abbrev cX5_init : ByteArray := prog_7_method_1_code
def yX5_init : MethodName := ⟨RX5, "<init>", "(LSnowSuits$Plan;LSnowSuits$Course;)V"⟩
abbrev cX5_tryAllRows : ByteArray := prog_7_method_2_code
def yX5_tryAllRows : MethodName := ⟨RX5, "tryAllRows", "(LSnowSuits$Hall;)V"⟩
abbrev cX5_isBetter : ByteArray := prog_7_method_3_code
def yX5_isBetter : MethodName := ⟨RX5, "isBetter", "()Z"⟩
abbrev cX5_nextRow : ByteArray := prog_7_method_4_code
def yX5_nextRow : MethodName := ⟨RX5, "nextRow", "()Z"⟩
abbrev cX5_swap : ByteArray := prog_7_method_5_code
def yX5_swap : MethodName := ⟨RX5, "swap", "(II)V"⟩
abbrev cX5_tryEachLast : ByteArray := prog_7_method_6_code
def yX5_tryEachLast : MethodName := ⟨RX5, "tryEachLast", "(LSnowSuits$Hall;)I"⟩
abbrev cX5_makeRowWithLast : ByteArray := prog_7_method_7_code
def yX5_makeRowWithLast : MethodName := ⟨RX5, "makeRowWithLast", "(I)V"⟩
def RX6 : String := "SnowSuits$Sights"
def TX6 : u_T := fun k => match k with
  | 0 => ("SnowSuits$Sights", "child", "[I", true)
  | 1 => ("SnowSuits$Sights", "minutes", "[I", true)
  | 2 => ("SnowSuits$Sights", "laidOut", "[Z", true)
  | _ => ("SnowSuits$Sights", "count", "I", false)
def tyX6 : Nat → FieldType := fun k => match k with
  | 0 => .array .int
  | 1 => .array .int
  | 2 => .array .boolean
  | _ => .int
abbrev wsX60 : List Cond := u_ws RX6 TX6 4
theorem nmX6 : ∀ a, a < 4 → ∀ b, b < 4 → a ≠ b → (TX6 a).2.1 ≠ (TX6 b).2.1 := by decide +kernel
theorem tyX6_ok : ∀ k, k < 4 → parseFieldDescriptor (TX6 k).2.2.1 = some (tyX6 k) := by decide +kernel
abbrev cX6_init : ByteArray := prog_8_method_1_code
def yX6_init : MethodName := ⟨RX6, "<init>", "()V"⟩
abbrev cX6_add : ByteArray := prog_8_method_2_code
def yX6_add : MethodName := ⟨RX6, "add", "(IIZ)Z"⟩
abbrev cX6_wouldBe : ByteArray := prog_8_method_3_code
def yX6_wouldBe : MethodName := ⟨RX6, "wouldBe", "(III)Z"⟩
def RX7 : String := "SnowSuits$Text"
def TX7 : u_T := fun k => match k with
  | 0 => ("SnowSuits$Text", "letters", "[C", true)
  | _ => ("SnowSuits$Text", "length", "I", false)
def tyX7 : Nat → FieldType := fun k => match k with
  | 0 => .array .char
  | _ => .int
abbrev wsX70 : List Cond := u_ws RX7 TX7 2
theorem nmX7 : ∀ a, a < 2 → ∀ b, b < 2 → a ≠ b → (TX7 a).2.1 ≠ (TX7 b).2.1 := by decide +kernel
theorem tyX7_ok : ∀ k, k < 2 → parseFieldDescriptor (TX7 k).2.2.1 = some (tyX7 k) := by decide +kernel
abbrev cX7_init : ByteArray := prog_9_method_1_code
def yX7_init : MethodName := ⟨RX7, "<init>", "()V"⟩
abbrev cX7_add : ByteArray := prog_9_method_2_code
def yX7_add : MethodName := ⟨RX7, "add", "(C)Z"⟩
abbrev cX7_clear : ByteArray := prog_9_method_3_code
def yX7_clear : MethodName := ⟨RX7, "clear", "()V"⟩
abbrev cX7_readInto : ByteArray := prog_9_method_4_code
def yX7_readInto : MethodName := ⟨RX7, "readInto", "(LSnowSuits$Plan;)I"⟩
abbrev cX7_readItem : ByteArray := prog_9_method_5_code
def yX7_readItem : MethodName := ⟨RX7, "readItem", "(ILSnowSuits$Plan;)I"⟩
abbrev cX7_numberAt : ByteArray := prog_9_method_6_code
def yX7_numberAt : MethodName := ⟨RX7, "numberAt", "(I)I"⟩
abbrev cX7_figuresAt : ByteArray := prog_9_method_7_code
def yX7_figuresAt : MethodName := ⟨RX7, "figuresAt", "(I)I"⟩
abbrev cX7_isFigure : ByteArray := prog_9_method_8_code
def yX7_isFigure : MethodName := ⟨RX7, "isFigure", "(C)Z"⟩
abbrev cX7_letterAt : ByteArray := prog_9_method_9_code
def yX7_letterAt : MethodName := ⟨RX7, "letterAt", "(I)C"⟩
def RX8 : String := "SnowSuits"
def TX8 : u_T := fun k => match k with
  | 0 => ("SnowSuits", "text", "LSnowSuits$Text;", true)
  | 1 => ("SnowSuits", "draft", "LSnowSuits$Plan;", true)
  | 2 => ("SnowSuits", "plan", "LSnowSuits$Plan;", true)
  | 3 => ("SnowSuits", "now", "LSnowSuits$Hall;", true)
  | 4 => ("SnowSuits", "past", "LSnowSuits$Pile;", true)
  | 5 => ("SnowSuits", "kept", "LSnowSuits$Pile;", true)
  | 6 => ("SnowSuits", "course", "LSnowSuits$Course;", true)
  | 7 => ("SnowSuits", "search", "LSnowSuits$Search;", true)
  | _ => ("SnowSuits", "sights", "LSnowSuits$Sights;", true)
def tyX8 : Nat → FieldType := fun k => match k with
  | 0 => .object "SnowSuits$Text"
  | 1 => .object "SnowSuits$Plan"
  | 2 => .object "SnowSuits$Plan"
  | 3 => .object "SnowSuits$Hall"
  | 4 => .object "SnowSuits$Pile"
  | 5 => .object "SnowSuits$Pile"
  | 6 => .object "SnowSuits$Course"
  | 7 => .object "SnowSuits$Search"
  | _ => .object "SnowSuits$Sights"
abbrev wsX80 : List Cond := u_ws RX8 TX8 9
theorem nmX8 : ∀ a, a < 9 → ∀ b, b < 9 → a ≠ b → (TX8 a).2.1 ≠ (TX8 b).2.1 := by decide +kernel
theorem tyX8_ok : ∀ k, k < 9 → parseFieldDescriptor (TX8 k).2.2.1 = some (tyX8 k) := by decide +kernel
abbrev cX8_init : ByteArray := prog_1_method_1_code
def yX8_init : MethodName := ⟨RX8, "<init>", "()V"⟩
abbrev cX8_write : ByteArray := prog_1_method_2_code
def yX8_write : MethodName := ⟨RX8, "write", "(I)I"⟩
abbrev cX8_wipe : ByteArray := prog_1_method_3_code
def yX8_wipe : MethodName := ⟨RX8, "wipe", "()I"⟩
abbrev cX8_fault : ByteArray := prog_1_method_4_code
def yX8_fault : MethodName := ⟨RX8, "fault", "()I"⟩
abbrev cX8_lay : ByteArray := prog_1_method_5_code
def yX8_lay : MethodName := ⟨RX8, "lay", "()I"⟩
abbrev cX8_child : ByteArray := prog_1_method_6_code
def yX8_child : MethodName := ⟨RX8, "child", "(II)I"⟩
abbrev cX8_woman : ByteArray := prog_1_method_7_code
def yX8_woman : MethodName := ⟨RX8, "woman", "(II)I"⟩
abbrev cX8_take : ByteArray := prog_1_method_8_code
def yX8_take : MethodName := ⟨RX8, "take", "(II)I"⟩
abbrev cX8_layOut : ByteArray := prog_1_method_9_code
def yX8_layOut : MethodName := ⟨RX8, "layOut", "(I)I"⟩
abbrev cX8_door : ByteArray := prog_1_method_10_code
def yX8_door : MethodName := ⟨RX8, "door", "(I)I"⟩
abbrev cX8_pass : ByteArray := prog_1_method_11_code
def yX8_pass : MethodName := ⟨RX8, "pass", "(I)I"⟩
abbrev cX8_undo : ByteArray := prog_1_method_12_code
def yX8_undo : MethodName := ⟨RX8, "undo", "()I"⟩
abbrev cX8_asTold : ByteArray := prog_1_method_13_code
def yX8_asTold : MethodName := ⟨RX8, "asTold", "(I)I"⟩
abbrev cX8_best : ByteArray := prog_1_method_14_code
def yX8_best : MethodName := ⟨RX8, "best", "(I)I"⟩
abbrev cX8_last : ByteArray := prog_1_method_15_code
def yX8_last : MethodName := ⟨RX8, "last", "()I"⟩
abbrev cX8_pays : ByteArray := prog_1_method_16_code
def yX8_pays : MethodName := ⟨RX8, "pays", "()I"⟩
abbrev cX8_women : ByteArray := prog_1_method_17_code
def yX8_women : MethodName := ⟨RX8, "women", "(I)I"⟩
abbrev cX8_seen : ByteArray := prog_1_method_18_code
def yX8_seen : MethodName := ⟨RX8, "seen", "(III)I"⟩
abbrev cX8_forget : ByteArray := prog_1_method_19_code
def yX8_forget : MethodName := ⟨RX8, "forget", "()I"⟩
abbrev cX8_kinds : ByteArray := prog_1_method_20_code
def yX8_kinds : MethodName := ⟨RX8, "kinds", "(I)I"⟩
abbrev cX8_takes : ByteArray := prog_1_method_21_code
def yX8_takes : MethodName := ⟨RX8, "takes", "(II)I"⟩
abbrev cX8_must : ByteArray := prog_1_method_22_code
def yX8_must : MethodName := ⟨RX8, "must", "(III)I"⟩
abbrev cX8_morning : ByteArray := prog_1_method_23_code
def yX8_morning : MethodName := ⟨RX8, "morning", "(III)I"⟩
abbrev cX8_keep : ByteArray := prog_1_method_24_code
def yX8_keep : MethodName := ⟨RX8, "keep", "()I"⟩
abbrev cX8_back : ByteArray := prog_1_method_25_code
def yX8_back : MethodName := ⟨RX8, "back", "()I"⟩
abbrev cX8_count : ByteArray := prog_1_method_26_code
def yX8_count : MethodName := ⟨RX8, "count", "(I)I"⟩
def RX9 : String := "SnowSuitsModel"
def TX9 : u_T := fun k => match k with
  | 0 => ("SnowSuitsModel", "text", "[I", true)
  | 1 => ("SnowSuitsModel", "typed", "I", false)
  | 2 => ("SnowSuitsModel", "told", "[I", true)
  | 3 => ("SnowSuitsModel", "draft", "[I", true)
  | 4 => ("SnowSuitsModel", "s", "[I", true)
  | 5 => ("SnowSuitsModel", "past", "[I", true)
  | 6 => ("SnowSuitsModel", "known", "I", false)
  | 7 => ("SnowSuitsModel", "images", "[I", true)
  | 8 => ("SnowSuitsModel", "kept", "I", false)
  | 9 => ("SnowSuitsModel", "notes", "[I", true)
  | 10 => ("SnowSuitsModel", "noted", "I", false)
  | 11 => ("SnowSuitsModel", "at", "I", false)
  | 12 => ("SnowSuitsModel", "held", "[I", true)
  | 13 => ("SnowSuitsModel", "row", "[I", true)
  | 14 => ("SnowSuitsModel", "boils", "I", false)
  | _ => ("SnowSuitsModel", "odds", "[I", true)
def tyX9 : Nat → FieldType := fun k => match k with
  | 0 => .array .int
  | 1 => .int
  | 2 => .array .int
  | 3 => .array .int
  | 4 => .array .int
  | 5 => .array .int
  | 6 => .int
  | 7 => .array .int
  | 8 => .int
  | 9 => .array .int
  | 10 => .int
  | 11 => .int
  | 12 => .array .int
  | 13 => .array .int
  | 14 => .int
  | _ => .array .int
abbrev wsX90 : List Cond := u_ws RX9 TX9 16
theorem nmX9 : ∀ a, a < 16 → ∀ b, b < 16 → a ≠ b → (TX9 a).2.1 ≠ (TX9 b).2.1 := by decide +kernel
theorem tyX9_ok : ∀ k, k < 16 → parseFieldDescriptor (TX9 k).2.2.1 = some (tyX9 k) := by decide +kernel
abbrev cX9_init : ByteArray := prog_11_method_1_code
def yX9_init : MethodName := ⟨RX9, "<init>", "()V"⟩
abbrev cX9_in : ByteArray := prog_11_method_3_code
def yX9_in : MethodName := ⟨RX9, "in", "(III)Z"⟩
abbrev cX9_isChild : ByteArray := prog_11_method_4_code
def yX9_isChild : MethodName := ⟨RX9, "isChild", "(I)Z"⟩
abbrev cX9_isWoman : ByteArray := prog_11_method_5_code
def yX9_isWoman : MethodName := ⟨RX9, "isWoman", "(I)Z"⟩
abbrev cX9_write : ByteArray := prog_11_method_6_code
def yX9_write : MethodName := ⟨RX9, "write", "(I)I"⟩
abbrev cX9_wipe : ByteArray := prog_11_method_7_code
def yX9_wipe : MethodName := ⟨RX9, "wipe", "()I"⟩
abbrev cX9_letterAt : ByteArray := prog_11_method_8_code
def yX9_letterAt : MethodName := ⟨RX9, "letterAt", "(I)I"⟩
abbrev cX9_isFigure : ByteArray := prog_11_method_9_code
def yX9_isFigure : MethodName := ⟨RX9, "isFigure", "(I)Z"⟩
abbrev cX9_number : ByteArray := prog_11_method_10_code
def yX9_number : MethodName := ⟨RX9, "number", "(III)I"⟩
abbrev cX9_begins : ByteArray := prog_11_method_11_code
def yX9_begins : MethodName := ⟨RX9, "begins", "()V"⟩
abbrev cX9_childOf : ByteArray := prog_11_method_12_code
def yX9_childOf : MethodName := ⟨RX9, "childOf", "(II)V"⟩
abbrev cX9_one : ByteArray := prog_11_method_13_code
def yX9_one : MethodName := ⟨RX9, "one", "(II)Z"⟩
abbrev cX9_readsItem : ByteArray := prog_11_method_14_code
def yX9_readsItem : MethodName := ⟨RX9, "readsItem", "(I)Z"⟩
abbrev cX9_readsAll : ByteArray := prog_11_method_15_code
def yX9_readsAll : MethodName := ⟨RX9, "readsAll", "()I"⟩
abbrev cX9_fault : ByteArray := prog_11_method_16_code
def yX9_fault : MethodName := ⟨RX9, "fault", "()I"⟩
abbrev cX9_starts : ByteArray := prog_11_method_17_code
def yX9_starts : MethodName := ⟨RX9, "starts", "()V"⟩
abbrev cX9_lays : ByteArray := prog_11_method_18_code
def yX9_lays : MethodName := ⟨RX9, "lays", "()V"⟩
abbrev cX9_lay : ByteArray := prog_11_method_19_code
def yX9_lay : MethodName := ⟨RX9, "lay", "()I"⟩
abbrev cX9_minutes : ByteArray := prog_11_method_20_code
def yX9_minutes : MethodName := ⟨RX9, "minutes", "(III)I"⟩
abbrev cX9_minutesOf : ByteArray := prog_11_method_21_code
def yX9_minutesOf : MethodName := ⟨RX9, "minutesOf", "(I)I"⟩
abbrev cX9_whoHas : ByteArray := prog_11_method_22_code
def yX9_whoHas : MethodName := ⟨RX9, "whoHas", "(I)I"⟩
abbrev cX9_child : ByteArray := prog_11_method_23_code
def yX9_child : MethodName := ⟨RX9, "child", "(II)I"⟩
abbrev cX9_woman : ByteArray := prog_11_method_24_code
def yX9_woman : MethodName := ⟨RX9, "woman", "(II)I"⟩
abbrev cX9_keeps : ByteArray := prog_11_method_25_code
def yX9_keeps : MethodName := ⟨RX9, "keeps", "()V"⟩
abbrev cX9_begin : ByteArray := prog_11_method_26_code
def yX9_begin : MethodName := ⟨RX9, "begin", "(IIII)V"⟩
abbrev cX9_dresses : ByteArray := prog_11_method_27_code
def yX9_dresses : MethodName := ⟨RX9, "dresses", "(II)V"⟩
abbrev cX9_take : ByteArray := prog_11_method_28_code
def yX9_take : MethodName := ⟨RX9, "take", "(II)I"⟩
abbrev cX9_isLaid : ByteArray := prog_11_method_29_code
def yX9_isLaid : MethodName := ⟨RX9, "isLaid", "()Z"⟩
abbrev cX9_layOut : ByteArray := prog_11_method_30_code
def yX9_layOut : MethodName := ⟨RX9, "layOut", "(I)I"⟩
abbrev cX9_how : ByteArray := prog_11_method_31_code
def yX9_how : MethodName := ⟨RX9, "how", "(III)I"⟩
abbrev cX9_children : ByteArray := prog_11_method_32_code
def yX9_children : MethodName := ⟨RX9, "children", "(I)I"⟩
abbrev cX9_notOut : ByteArray := prog_11_method_33_code
def yX9_notOut : MethodName := ⟨RX9, "notOut", "()I"⟩
abbrev cX9_opens : ByteArray := prog_11_method_34_code
def yX9_opens : MethodName := ⟨RX9, "opens", "(I)I"⟩
abbrev cX9_door : ByteArray := prog_11_method_35_code
def yX9_door : MethodName := ⟨RX9, "door", "(I)I"⟩
abbrev cX9_passes : ByteArray := prog_11_method_36_code
def yX9_passes : MethodName := ⟨RX9, "passes", "()I"⟩
abbrev cX9_pass : ByteArray := prog_11_method_37_code
def yX9_pass : MethodName := ⟨RX9, "pass", "(I)I"⟩
abbrev cX9_undo : ByteArray := prog_11_method_38_code
def yX9_undo : MethodName := ⟨RX9, "undo", "()I"⟩
abbrev cX9_holds : ByteArray := prog_11_method_39_code
def yX9_holds : MethodName := ⟨RX9, "holds", "()V"⟩
abbrev cX9_lets : ByteArray := prog_11_method_40_code
def yX9_lets : MethodName := ⟨RX9, "lets", "()V"⟩
abbrev cX9_lowestFree : ByteArray := prog_11_method_41_code
def yX9_lowestFree : MethodName := ⟨RX9, "lowestFree", "()I"⟩
abbrev cX9_highestFree : ByteArray := prog_11_method_42_code
def yX9_highestFree : MethodName := ⟨RX9, "highestFree", "()I"⟩
abbrev cX9_mayOpen : ByteArray := prog_11_method_43_code
def yX9_mayOpen : MethodName := ⟨RX9, "mayOpen", "()Z"⟩
abbrev cX9_takesRow : ByteArray := prog_11_method_44_code
def yX9_takesRow : MethodName := ⟨RX9, "takesRow", "()V"⟩
abbrev cX9_goes : ByteArray := prog_11_method_45_code
def yX9_goes : MethodName := ⟨RX9, "goes", "()I"⟩
abbrev cX9_goesBut : ByteArray := prog_11_method_46_code
def yX9_goesBut : MethodName := ⟨RX9, "goesBut", "(I)I"⟩
abbrev cX9_asTold : ByteArray := prog_11_method_47_code
def yX9_asTold : MethodName := ⟨RX9, "asTold", "(I)I"⟩
abbrev cX9_isRow : ByteArray := prog_11_method_48_code
def yX9_isRow : MethodName := ⟨RX9, "isRow", "(I)Z"⟩
abbrev cX9_best : ByteArray := prog_11_method_49_code
def yX9_best : MethodName := ⟨RX9, "best", "(I)I"⟩
abbrev cX9_last : ByteArray := prog_11_method_50_code
def yX9_last : MethodName := ⟨RX9, "last", "()I"⟩
abbrev cX9_pays : ByteArray := prog_11_method_51_code
def yX9_pays : MethodName := ⟨RX9, "pays", "()I"⟩
abbrev cX9_women : ByteArray := prog_11_method_52_code
def yX9_women : MethodName := ⟨RX9, "women", "(I)I"⟩
abbrev cX9_seen : ByteArray := prog_11_method_53_code
def yX9_seen : MethodName := ⟨RX9, "seen", "(III)I"⟩
abbrev cX9_forget : ByteArray := prog_11_method_54_code
def yX9_forget : MethodName := ⟨RX9, "forget", "()I"⟩
abbrev cX9_isSo : ByteArray := prog_11_method_55_code
def yX9_isSo : MethodName := ⟨RX9, "isSo", "(III)Z"⟩
abbrev cX9_kinds : ByteArray := prog_11_method_56_code
def yX9_kinds : MethodName := ⟨RX9, "kinds", "(I)I"⟩
abbrev cX9_takes : ByteArray := prog_11_method_57_code
def yX9_takes : MethodName := ⟨RX9, "takes", "(II)I"⟩
abbrev cX9_must : ByteArray := prog_11_method_58_code
def yX9_must : MethodName := ⟨RX9, "must", "(III)I"⟩
abbrev cX9_turn : ByteArray := prog_11_method_59_code
def yX9_turn : MethodName := ⟨RX9, "turn", "(I)I"⟩
abbrev cX9_morning : ByteArray := prog_11_method_60_code
def yX9_morning : MethodName := ⟨RX9, "morning", "(III)I"⟩
abbrev cX9_keep : ByteArray := prog_11_method_61_code
def yX9_keep : MethodName := ⟨RX9, "keep", "()I"⟩
abbrev cX9_back : ByteArray := prog_11_method_62_code
def yX9_back : MethodName := ⟨RX9, "back", "()I"⟩
abbrev cX9_count : ByteArray := prog_11_method_63_code
def yX9_count : MethodName := ⟨RX9, "count", "(I)I"⟩
def RJ9 : String := "java/lang/Math"
def TJ9 : u_T := fun k => match k with
  | _ => ("", "", "", false)
def tyJ9 : Nat → FieldType := fun k => match k with
  | _ => .int
abbrev wsJ90 : List Cond := u_ws RJ9 TJ9 0
theorem nmJ9 : ∀ a, a < 0 → ∀ b, b < 0 → a ≠ b → (TJ9 a).2.1 ≠ (TJ9 b).2.1 := by decide +kernel
theorem tyJ9_ok : ∀ k, k < 0 → parseFieldDescriptor (TJ9 k).2.2.1 = some (tyJ9 k) := by decide +kernel
abbrev cJ9_max_7cf53 : ByteArray := prog_12_method_65_code
def yJ9_max_7cf53 : MethodName := ⟨RJ9, "max", "(II)I"⟩
abbrev cJ9_min_7cf53 : ByteArray := prog_12_method_69_code
def yJ9_min_7cf53 : MethodName := ⟨RJ9, "min", "(II)I"⟩
def RJ0 : String := "java/lang/String"
def TJ0 : u_T := fun k => match k with
  | _ => ("", "", "", false)
def tyJ0 : Nat → FieldType := fun k => match k with
  | _ => .int
abbrev wsJ00 : List Cond := u_ws RJ0 TJ0 0
theorem nmJ0 : ∀ a, a < 0 → ∀ b, b < 0 → a ≠ b → (TJ0 a).2.1 ≠ (TJ0 b).2.1 := by decide +kernel
theorem tyJ0_ok : ∀ k, k < 0 → parseFieldDescriptor (TJ0 k).2.2.1 = some (tyJ0 k) := by decide +kernel
abbrev cJ0_length_8abf5 : ByteArray := prog_13_method_54_code
def yJ0_length_8abf5 : MethodName := ⟨RJ0, "length", "()I"⟩
abbrev cJ0_charAt_5068e : ByteArray := prog_13_method_56_code
def yJ0_charAt_5068e : MethodName := ⟨RJ0, "charAt", "(I)C"⟩
abbrev cJ0_coder_7d493 : ByteArray := prog_13_method_152_code
def yJ0_coder_7d493 : MethodName := ⟨RJ0, "coder", "()B"⟩
abbrev cJ0_isLatin1_aae02 : ByteArray := prog_13_method_154_code
def yJ0_isLatin1_aae02 : MethodName := ⟨RJ0, "isLatin1", "()Z"⟩
abbrev cJ0_checkIndex_df160 : ByteArray := prog_13_method_155_code
def yJ0_checkIndex_df160 : MethodName := ⟨RJ0, "checkIndex", "(II)V"⟩
def RJ1 : String := "java/lang/StringLatin1"
def TJ1 : u_T := fun k => match k with
  | _ => ("", "", "", false)
def tyJ1 : Nat → FieldType := fun k => match k with
  | _ => .int
abbrev wsJ10 : List Cond := u_ws RJ1 TJ1 0
theorem nmJ1 : ∀ a, a < 0 → ∀ b, b < 0 → a ≠ b → (TJ1 a).2.1 ≠ (TJ1 b).2.1 := by decide +kernel
theorem tyJ1_ok : ∀ k, k < 0 → parseFieldDescriptor (TJ1 k).2.2.1 = some (tyJ1 k) := by decide +kernel
abbrev cJ1_charAt_3b067 : ByteArray := prog_14_method_2_code
def yJ1_charAt_3b067 : MethodName := ⟨RJ1, "charAt", "([BI)C"⟩
def RJ2 : String := "java/lang/StringUTF16"
def TJ2 : u_T := fun k => match k with
  | _ => ("", "", "", false)
def tyJ2 : Nat → FieldType := fun k => match k with
  | _ => .int
abbrev wsJ20 : List Cond := u_ws RJ2 TJ2 0
theorem nmJ2 : ∀ a, a < 0 → ∀ b, b < 0 → a ≠ b → (TJ2 a).2.1 ≠ (TJ2 b).2.1 := by decide +kernel
theorem tyJ2_ok : ∀ k, k < 0 → parseFieldDescriptor (TJ2 k).2.2.1 = some (tyJ2 k) := by decide +kernel
abbrev cJ2_getChar_3b067 : ByteArray := prog_15_method_5_code
def yJ2_getChar_3b067 : MethodName := ⟨RJ2, "getChar", "([BI)C"⟩
abbrev cJ2_length_9d52b : ByteArray := prog_15_method_6_code
def yJ2_length_9d52b : MethodName := ⟨RJ2, "length", "([B)I"⟩
abbrev cJ2_charAt_3b067 : ByteArray := prog_15_method_83_code
def yJ2_charAt_3b067 : MethodName := ⟨RJ2, "charAt", "([BI)C"⟩
abbrev cJ2_checkIndex_2214a : ByteArray := prog_15_method_91_code
def yJ2_checkIndex_2214a : MethodName := ⟨RJ2, "checkIndex", "(I[B)V"⟩
def RJ10 : String := "java/lang/System"
def TJ10 : u_T := fun k => match k with
  | _ => ("", "", "", false)
def tyJ10 : Nat → FieldType := fun k => match k with
  | _ => .int
abbrev wsJ100 : List Cond := u_ws RJ10 TJ10 0
theorem nmJ10 : ∀ a, a < 0 → ∀ b, b < 0 → a ≠ b → (TJ10 a).2.1 ≠ (TJ10 b).2.1 := by decide +kernel
theorem tyJ10_ok : ∀ k, k < 0 → parseFieldDescriptor (TJ10 k).2.2.1 = some (tyJ10 k) := by decide +kernel
def RJ3 : String := "jdk/internal/util/Preconditions"
def TJ3 : u_T := fun k => match k with
  | _ => ("", "", "", false)
def tyJ3 : Nat → FieldType := fun k => match k with
  | _ => .int
abbrev wsJ30 : List Cond := u_ws RJ3 TJ3 0
theorem nmJ3 : ∀ a, a < 0 → ∀ b, b < 0 → a ≠ b → (TJ3 a).2.1 ≠ (TJ3 b).2.1 := by decide +kernel
theorem tyJ3_ok : ∀ k, k < 0 → parseFieldDescriptor (TJ3 k).2.2.1 = some (tyJ3 k) := by decide +kernel
abbrev cJ3_checkIndex_8e157 : ByteArray := prog_17_method_11_code
def yJ3_checkIndex_8e157 : MethodName := ⟨RJ3, "checkIndex", "(IILjava/util/function/BiFunction;)I"⟩
def RL : String := "SnowSuitsLaw"
abbrev cL_law : ByteArray := code
def yL_law : MethodName := ⟨RL, "law", "([I)Z"⟩
abbrev vwCl : List vw_C := [(RX1, TX1, 4), (RX2, TX2, 11), (RX3, TX3, 3), (RX4, TX4, 7), (RX5, TX5, 7), (RX6, TX6, 4), (RX7, TX7, 2), (RX8, TX8, 9), (RX9, TX9, 16)]
end
section
theorem dX0_waysOfSoMany_0 : decode cX0_waysOfSoMany 0 = .ok (.iconst 0, 1) := by decide +kernel
theorem dX0_waysOfSoMany_1 : decode cX0_waysOfSoMany 1 = .ok (.istore_n 3, 1) := by decide +kernel
theorem dX0_waysOfSoMany_2 : decode cX0_waysOfSoMany 2 = .ok (.iload_n 1, 1) := by decide +kernel
theorem dX0_waysOfSoMany_3 : decode cX0_waysOfSoMany 3 = .ok (.istore 4, 2) := by decide +kernel
theorem dX0_waysOfSoMany_5 : decode cX0_waysOfSoMany 5 = .ok (.iload 4, 2) := by decide +kernel
theorem dX0_waysOfSoMany_7 : decode cX0_waysOfSoMany 7 = .ok (.iload_n 0, 1) := by decide +kernel
theorem dX0_waysOfSoMany_8 : decode cX0_waysOfSoMany 8 = .ok (.if_icmp .gt 37, 3) := by decide +kernel
theorem dX0_waysOfSoMany_11 : decode cX0_waysOfSoMany 11 = .ok (.iload_n 3, 1) := by decide +kernel
theorem dX0_waysOfSoMany_12 : decode cX0_waysOfSoMany 12 = .ok (.iload_n 0, 1) := by decide +kernel
theorem dX0_waysOfSoMany_13 : decode cX0_waysOfSoMany 13 = .ok (.iload 4, 2) := by decide +kernel
theorem dX0_waysOfSoMany_15 : decode cX0_waysOfSoMany 15 = .ok (.invokestatic 7, 3) := by decide +kernel
theorem dX0_waysOfSoMany_18 : decode cX0_waysOfSoMany 18 = .ok (.iload_n 2, 1) := by decide +kernel
theorem dX0_waysOfSoMany_19 : decode cX0_waysOfSoMany 19 = .ok (.iload 4, 2) := by decide +kernel
theorem dX0_waysOfSoMany_21 : decode cX0_waysOfSoMany 21 = .ok (.invokestatic 13, 3) := by decide +kernel
theorem dX0_waysOfSoMany_24 : decode cX0_waysOfSoMany 24 = .ok (.imul, 1) := by decide +kernel
theorem dX0_waysOfSoMany_25 : decode cX0_waysOfSoMany 25 = .ok (.bipush 10, 2) := by decide +kernel
theorem dX0_waysOfSoMany_27 : decode cX0_waysOfSoMany 27 = .ok (.iload_n 2, 1) := by decide +kernel
theorem dX0_waysOfSoMany_28 : decode cX0_waysOfSoMany 28 = .ok (.isub, 1) := by decide +kernel
theorem dX0_waysOfSoMany_29 : decode cX0_waysOfSoMany 29 = .ok (.iload_n 0, 1) := by decide +kernel
theorem dX0_waysOfSoMany_30 : decode cX0_waysOfSoMany 30 = .ok (.iload 4, 2) := by decide +kernel
theorem dX0_waysOfSoMany_32 : decode cX0_waysOfSoMany 32 = .ok (.isub, 1) := by decide +kernel
theorem dX0_waysOfSoMany_33 : decode cX0_waysOfSoMany 33 = .ok (.invokestatic 13, 3) := by decide +kernel
theorem dX0_waysOfSoMany_36 : decode cX0_waysOfSoMany 36 = .ok (.imul, 1) := by decide +kernel
theorem dX0_waysOfSoMany_37 : decode cX0_waysOfSoMany 37 = .ok (.iadd, 1) := by decide +kernel
theorem dX0_waysOfSoMany_38 : decode cX0_waysOfSoMany 38 = .ok (.istore_n 3, 1) := by decide +kernel
theorem dX0_waysOfSoMany_39 : decode cX0_waysOfSoMany 39 = .ok (.iinc 4 1, 3) := by decide +kernel
theorem dX0_waysOfSoMany_42 : decode cX0_waysOfSoMany 42 = .ok (.goto (-37), 3) := by decide +kernel
theorem dX0_waysOfSoMany_45 : decode cX0_waysOfSoMany 45 = .ok (.iload_n 3, 1) := by decide +kernel
theorem dX0_waysOfSoMany_46 : decode cX0_waysOfSoMany 46 = .ok (.ireturn, 1) := by decide +kernel
theorem dX0_choose_0 : decode cX0_choose 0 = .ok (.iconst 1, 1) := by decide +kernel
theorem dX0_choose_1 : decode cX0_choose 1 = .ok (.istore_n 2, 1) := by decide +kernel
theorem dX0_choose_2 : decode cX0_choose 2 = .ok (.iconst 1, 1) := by decide +kernel
theorem dX0_choose_3 : decode cX0_choose 3 = .ok (.istore_n 3, 1) := by decide +kernel
theorem dX0_choose_4 : decode cX0_choose 4 = .ok (.iload_n 3, 1) := by decide +kernel
theorem dX0_choose_5 : decode cX0_choose 5 = .ok (.iload_n 1, 1) := by decide +kernel
theorem dX0_choose_6 : decode cX0_choose 6 = .ok (.if_icmp .gt 19, 3) := by decide +kernel
theorem dX0_choose_9 : decode cX0_choose 9 = .ok (.iload_n 2, 1) := by decide +kernel
theorem dX0_choose_10 : decode cX0_choose 10 = .ok (.iload_n 0, 1) := by decide +kernel
theorem dX0_choose_11 : decode cX0_choose 11 = .ok (.iload_n 3, 1) := by decide +kernel
theorem dX0_choose_12 : decode cX0_choose 12 = .ok (.isub, 1) := by decide +kernel
theorem dX0_choose_13 : decode cX0_choose 13 = .ok (.iconst 1, 1) := by decide +kernel
theorem dX0_choose_14 : decode cX0_choose 14 = .ok (.iadd, 1) := by decide +kernel
theorem dX0_choose_15 : decode cX0_choose 15 = .ok (.imul, 1) := by decide +kernel
theorem dX0_choose_16 : decode cX0_choose 16 = .ok (.iload_n 3, 1) := by decide +kernel
theorem dX0_choose_17 : decode cX0_choose 17 = .ok (.idiv, 1) := by decide +kernel
theorem dX0_choose_18 : decode cX0_choose 18 = .ok (.istore_n 2, 1) := by decide +kernel
theorem dX0_choose_19 : decode cX0_choose 19 = .ok (.iinc 3 1, 3) := by decide +kernel
theorem dX0_choose_22 : decode cX0_choose 22 = .ok (.goto (-18), 3) := by decide +kernel
theorem dX0_choose_25 : decode cX0_choose 25 = .ok (.iload_n 2, 1) := by decide +kernel
theorem dX0_choose_26 : decode cX0_choose 26 = .ok (.ireturn, 1) := by decide +kernel
theorem dX0_power_0 : decode cX0_power 0 = .ok (.iconst 1, 1) := by decide +kernel
theorem dX0_power_1 : decode cX0_power 1 = .ok (.istore_n 2, 1) := by decide +kernel
theorem dX0_power_2 : decode cX0_power 2 = .ok (.iconst 0, 1) := by decide +kernel
theorem dX0_power_3 : decode cX0_power 3 = .ok (.istore_n 3, 1) := by decide +kernel
theorem dX0_power_4 : decode cX0_power 4 = .ok (.iload_n 3, 1) := by decide +kernel
theorem dX0_power_5 : decode cX0_power 5 = .ok (.iload_n 1, 1) := by decide +kernel
theorem dX0_power_6 : decode cX0_power 6 = .ok (.if_icmp .ge 13, 3) := by decide +kernel
theorem dX0_power_9 : decode cX0_power 9 = .ok (.iload_n 2, 1) := by decide +kernel
theorem dX0_power_10 : decode cX0_power 10 = .ok (.iload_n 0, 1) := by decide +kernel
theorem dX0_power_11 : decode cX0_power 11 = .ok (.imul, 1) := by decide +kernel
theorem dX0_power_12 : decode cX0_power 12 = .ok (.istore_n 2, 1) := by decide +kernel
theorem dX0_power_13 : decode cX0_power 13 = .ok (.iinc 3 1, 3) := by decide +kernel
theorem dX0_power_16 : decode cX0_power 16 = .ok (.goto (-12), 3) := by decide +kernel
theorem dX0_power_19 : decode cX0_power 19 = .ok (.iload_n 2, 1) := by decide +kernel
theorem dX0_power_20 : decode cX0_power 20 = .ok (.ireturn, 1) := by decide +kernel
theorem dX0_commonDivisor_0 : decode cX0_commonDivisor 0 = .ok (.iload_n 0, 1) := by decide +kernel
theorem dX0_commonDivisor_1 : decode cX0_commonDivisor 1 = .ok (.istore_n 2, 1) := by decide +kernel
theorem dX0_commonDivisor_2 : decode cX0_commonDivisor 2 = .ok (.iload_n 1, 1) := by decide +kernel
theorem dX0_commonDivisor_3 : decode cX0_commonDivisor 3 = .ok (.istore_n 3, 1) := by decide +kernel
theorem dX0_commonDivisor_4 : decode cX0_commonDivisor 4 = .ok (.iconst 0, 1) := by decide +kernel
theorem dX0_commonDivisor_5 : decode cX0_commonDivisor 5 = .ok (.istore 4, 2) := by decide +kernel
theorem dX0_commonDivisor_7 : decode cX0_commonDivisor 7 = .ok (.iload 4, 2) := by decide +kernel
theorem dX0_commonDivisor_9 : decode cX0_commonDivisor 9 = .ok (.bipush 50, 2) := by decide +kernel
theorem dX0_commonDivisor_11 : decode cX0_commonDivisor 11 = .ok (.if_icmp .ge 23, 3) := by decide +kernel
theorem dX0_commonDivisor_14 : decode cX0_commonDivisor 14 = .ok (.iload_n 3, 1) := by decide +kernel
theorem dX0_commonDivisor_15 : decode cX0_commonDivisor 15 = .ok (.ifCond .eq 19, 3) := by decide +kernel
theorem dX0_commonDivisor_18 : decode cX0_commonDivisor 18 = .ok (.iload_n 2, 1) := by decide +kernel
theorem dX0_commonDivisor_19 : decode cX0_commonDivisor 19 = .ok (.iload_n 3, 1) := by decide +kernel
theorem dX0_commonDivisor_20 : decode cX0_commonDivisor 20 = .ok (.irem, 1) := by decide +kernel
theorem dX0_commonDivisor_21 : decode cX0_commonDivisor 21 = .ok (.istore 5, 2) := by decide +kernel
theorem dX0_commonDivisor_23 : decode cX0_commonDivisor 23 = .ok (.iload_n 3, 1) := by decide +kernel
theorem dX0_commonDivisor_24 : decode cX0_commonDivisor 24 = .ok (.istore_n 2, 1) := by decide +kernel
theorem dX0_commonDivisor_25 : decode cX0_commonDivisor 25 = .ok (.iload 5, 2) := by decide +kernel
theorem dX0_commonDivisor_27 : decode cX0_commonDivisor 27 = .ok (.istore_n 3, 1) := by decide +kernel
theorem dX0_commonDivisor_28 : decode cX0_commonDivisor 28 = .ok (.iinc 4 1, 3) := by decide +kernel
theorem dX0_commonDivisor_31 : decode cX0_commonDivisor 31 = .ok (.goto (-24), 3) := by decide +kernel
theorem dX0_commonDivisor_34 : decode cX0_commonDivisor 34 = .ok (.iload_n 2, 1) := by decide +kernel
theorem dX0_commonDivisor_35 : decode cX0_commonDivisor 35 = .ok (.ireturn, 1) := by decide +kernel
theorem dX1_init_0 : decode cX1_init 0 = .ok (.aload_n 0, 1) := by decide +kernel
theorem dX1_init_1 : decode cX1_init 1 = .ok (.invokespecial 3, 3) := by decide +kernel
theorem dX1_init_4 : decode cX1_init 4 = .ok (.aload_n 0, 1) := by decide +kernel
theorem dX1_init_5 : decode cX1_init 5 = .ok (.aload_n 1, 1) := by decide +kernel
theorem dX1_init_6 : decode cX1_init 6 = .ok (.putfield 9, 3) := by decide +kernel
theorem dX1_init_9 : decode cX1_init 9 = .ok (.aload_n 0, 1) := by decide +kernel
theorem dX1_init_10 : decode cX1_init 10 = .ok (.new 15, 3) := by decide +kernel
theorem dX1_init_13 : decode cX1_init 13 = .ok (.dup, 1) := by decide +kernel
theorem dX1_init_14 : decode cX1_init 14 = .ok (.aload_n 1, 1) := by decide +kernel
theorem dX1_init_15 : decode cX1_init 15 = .ok (.invokespecial 17, 3) := by decide +kernel
theorem dX1_init_18 : decode cX1_init 18 = .ok (.putfield 20, 3) := by decide +kernel
theorem dX1_init_21 : decode cX1_init 21 = .ok (.return_, 1) := by decide +kernel
theorem dX1_startFrom_0 : decode cX1_startFrom 0 = .ok (.aload_n 0, 1) := by decide +kernel
theorem dX1_startFrom_1 : decode cX1_startFrom 1 = .ok (.getfield 20, 3) := by decide +kernel
theorem dX1_startFrom_4 : decode cX1_startFrom 4 = .ok (.aload_n 1, 1) := by decide +kernel
theorem dX1_startFrom_5 : decode cX1_startFrom 5 = .ok (.invokevirtual 24, 3) := by decide +kernel
theorem dX1_startFrom_8 : decode cX1_startFrom 8 = .ok (.return_, 1) := by decide +kernel
theorem dX1_minutesTillLunch_0 : decode cX1_minutesTillLunch 0 = .ok (.aload_n 0, 1) := by decide +kernel
theorem dX1_minutesTillLunch_1 : decode cX1_minutesTillLunch 1 = .ok (.getfield 9, 3) := by decide +kernel
theorem dX1_minutesTillLunch_4 : decode cX1_minutesTillLunch 4 = .ok (.getfield 28, 3) := by decide +kernel
theorem dX1_minutesTillLunch_7 : decode cX1_minutesTillLunch 7 = .ok (.aload_n 0, 1) := by decide +kernel
theorem dX1_minutesTillLunch_8 : decode cX1_minutesTillLunch 8 = .ok (.getfield 20, 3) := by decide +kernel
theorem dX1_minutesTillLunch_11 : decode cX1_minutesTillLunch 11 = .ok (.getfield 34, 3) := by decide +kernel
theorem dX1_minutesTillLunch_14 : decode cX1_minutesTillLunch 14 = .ok (.isub, 1) := by decide +kernel
theorem dX1_minutesTillLunch_15 : decode cX1_minutesTillLunch 15 = .ok (.ireturn, 1) := by decide +kernel
theorem dX1_goOn_0 : decode cX1_goOn 0 = .ok (.aload_n 0, 1) := by decide +kernel
theorem dX1_goOn_1 : decode cX1_goOn 1 = .ok (.iconst 0, 1) := by decide +kernel
theorem dX1_goOn_2 : decode cX1_goOn 2 = .ok (.putfield 37, 3) := by decide +kernel
theorem dX1_goOn_5 : decode cX1_goOn 5 = .ok (.iconst 0, 1) := by decide +kernel
theorem dX1_goOn_6 : decode cX1_goOn 6 = .ok (.istore_n 3, 1) := by decide +kernel
theorem dX1_goOn_7 : decode cX1_goOn 7 = .ok (.iload_n 3, 1) := by decide +kernel
theorem dX1_goOn_8 : decode cX1_goOn 8 = .ok (.iload_n 2, 1) := by decide +kernel
theorem dX1_goOn_9 : decode cX1_goOn 9 = .ok (.if_icmp .gt 50, 3) := by decide +kernel
theorem dX1_goOn_12 : decode cX1_goOn 12 = .ok (.aload_n 0, 1) := by decide +kernel
theorem dX1_goOn_13 : decode cX1_goOn 13 = .ok (.invokevirtual 40, 3) := by decide +kernel
theorem dX1_goOn_16 : decode cX1_goOn 16 = .ok (.aload_n 0, 1) := by decide +kernel
theorem dX1_goOn_17 : decode cX1_goOn 17 = .ok (.getfield 20, 3) := by decide +kernel
theorem dX1_goOn_20 : decode cX1_goOn 20 = .ok (.invokevirtual 43, 3) := by decide +kernel
theorem dX1_goOn_23 : decode cX1_goOn 23 = .ok (.ifCond .eq 9, 3) := by decide +kernel
theorem dX1_goOn_26 : decode cX1_goOn 26 = .ok (.aload_n 0, 1) := by decide +kernel
theorem dX1_goOn_27 : decode cX1_goOn 27 = .ok (.iload_n 3, 1) := by decide +kernel
theorem dX1_goOn_28 : decode cX1_goOn 28 = .ok (.putfield 47, 3) := by decide +kernel
theorem dX1_goOn_31 : decode cX1_goOn 31 = .ok (.return_, 1) := by decide +kernel
theorem dX1_goOn_32 : decode cX1_goOn 32 = .ok (.aload_n 0, 1) := by decide +kernel
theorem dX1_goOn_33 : decode cX1_goOn 33 = .ok (.aload_n 1, 1) := by decide +kernel
theorem dX1_goOn_34 : decode cX1_goOn 34 = .ok (.invokevirtual 50, 3) := by decide +kernel
theorem dX1_goOn_37 : decode cX1_goOn 37 = .ok (.aload_n 0, 1) := by decide +kernel
theorem dX1_goOn_38 : decode cX1_goOn 38 = .ok (.dup, 1) := by decide +kernel
theorem dX1_goOn_39 : decode cX1_goOn 39 = .ok (.getfield 37, 3) := by decide +kernel
theorem dX1_goOn_42 : decode cX1_goOn 42 = .ok (.aload_n 0, 1) := by decide +kernel
theorem dX1_goOn_43 : decode cX1_goOn 43 = .ok (.getfield 20, 3) := by decide +kernel
theorem dX1_goOn_46 : decode cX1_goOn 46 = .ok (.invokevirtual 54, 3) := by decide +kernel
theorem dX1_goOn_49 : decode cX1_goOn 49 = .ok (.iadd, 1) := by decide +kernel
theorem dX1_goOn_50 : decode cX1_goOn 50 = .ok (.putfield 37, 3) := by decide +kernel
theorem dX1_goOn_53 : decode cX1_goOn 53 = .ok (.iinc 3 1, 3) := by decide +kernel
theorem dX1_goOn_56 : decode cX1_goOn 56 = .ok (.goto (-49), 3) := by decide +kernel
theorem dX1_goOn_59 : decode cX1_goOn 59 = .ok (.aload_n 0, 1) := by decide +kernel
theorem dX1_goOn_60 : decode cX1_goOn 60 = .ok (.bipush (-4), 2) := by decide +kernel
theorem dX1_goOn_62 : decode cX1_goOn 62 = .ok (.putfield 47, 3) := by decide +kernel
theorem dX1_goOn_65 : decode cX1_goOn 65 = .ok (.aload_n 0, 1) := by decide +kernel
theorem dX1_goOn_66 : decode cX1_goOn 66 = .ok (.bipush (-4), 2) := by decide +kernel
theorem dX1_goOn_68 : decode cX1_goOn 68 = .ok (.putfield 37, 3) := by decide +kernel
theorem dX1_goOn_71 : decode cX1_goOn 71 = .ok (.return_, 1) := by decide +kernel
theorem dX1_openDoors_0 : decode cX1_openDoors 0 = .ok (.iconst 0, 1) := by decide +kernel
theorem dX1_openDoors_1 : decode cX1_openDoors 1 = .ok (.istore_n 1, 1) := by decide +kernel
theorem dX1_openDoors_2 : decode cX1_openDoors 2 = .ok (.iload_n 1, 1) := by decide +kernel
theorem dX1_openDoors_3 : decode cX1_openDoors 3 = .ok (.iconst 3, 1) := by decide +kernel
theorem dX1_openDoors_4 : decode cX1_openDoors 4 = .ok (.if_icmp .ge 31, 3) := by decide +kernel
theorem dX1_openDoors_7 : decode cX1_openDoors 7 = .ok (.aload_n 0, 1) := by decide +kernel
theorem dX1_openDoors_8 : decode cX1_openDoors 8 = .ok (.invokevirtual 58, 3) := by decide +kernel
theorem dX1_openDoors_11 : decode cX1_openDoors 11 = .ok (.ifCond .eq 24, 3) := by decide +kernel
theorem dX1_openDoors_14 : decode cX1_openDoors 14 = .ok (.aload_n 0, 1) := by decide +kernel
theorem dX1_openDoors_15 : decode cX1_openDoors 15 = .ok (.getfield 20, 3) := by decide +kernel
theorem dX1_openDoors_18 : decode cX1_openDoors 18 = .ok (.aload_n 0, 1) := by decide +kernel
theorem dX1_openDoors_19 : decode cX1_openDoors 19 = .ok (.getfield 20, 3) := by decide +kernel
theorem dX1_openDoors_22 : decode cX1_openDoors 22 = .ok (.invokevirtual 61, 3) := by decide +kernel
theorem dX1_openDoors_25 : decode cX1_openDoors 25 = .ok (.invokevirtual 64, 3) := by decide +kernel
theorem dX1_openDoors_28 : decode cX1_openDoors 28 = .ok (.pop, 1) := by decide +kernel
theorem dX1_openDoors_29 : decode cX1_openDoors 29 = .ok (.iinc 1 1, 3) := by decide +kernel
theorem dX1_openDoors_32 : decode cX1_openDoors 32 = .ok (.goto (-30), 3) := by decide +kernel
theorem dX1_openDoors_35 : decode cX1_openDoors 35 = .ok (.return_, 1) := by decide +kernel
theorem dX1_doorIsDue_0 : decode cX1_doorIsDue 0 = .ok (.aload_n 0, 1) := by decide +kernel
theorem dX1_doorIsDue_1 : decode cX1_doorIsDue 1 = .ok (.getfield 20, 3) := by decide +kernel
theorem dX1_doorIsDue_4 : decode cX1_doorIsDue 4 = .ok (.iconst 2, 1) := by decide +kernel
theorem dX1_doorIsDue_5 : decode cX1_doorIsDue 5 = .ok (.invokevirtual 68, 3) := by decide +kernel
theorem dX1_doorIsDue_8 : decode cX1_doorIsDue 8 = .ok (.istore_n 1, 1) := by decide +kernel
theorem dX1_doorIsDue_9 : decode cX1_doorIsDue 9 = .ok (.iload_n 1, 1) := by decide +kernel
theorem dX1_doorIsDue_10 : decode cX1_doorIsDue 10 = .ok (.ifCond .eq 14, 3) := by decide +kernel
theorem dX1_doorIsDue_13 : decode cX1_doorIsDue 13 = .ok (.aload_n 0, 1) := by decide +kernel
theorem dX1_doorIsDue_14 : decode cX1_doorIsDue 14 = .ok (.getfield 20, 3) := by decide +kernel
theorem dX1_doorIsDue_17 : decode cX1_doorIsDue 17 = .ok (.iconst 0, 1) := by decide +kernel
theorem dX1_doorIsDue_18 : decode cX1_doorIsDue 18 = .ok (.invokevirtual 71, 3) := by decide +kernel
theorem dX1_doorIsDue_21 : decode cX1_doorIsDue 21 = .ok (.ifCond .ne 5, 3) := by decide +kernel
theorem dX1_doorIsDue_24 : decode cX1_doorIsDue 24 = .ok (.iconst 0, 1) := by decide +kernel
theorem dX1_doorIsDue_25 : decode cX1_doorIsDue 25 = .ok (.ireturn, 1) := by decide +kernel
theorem dX1_doorIsDue_26 : decode cX1_doorIsDue 26 = .ok (.iload_n 1, 1) := by decide +kernel
theorem dX1_doorIsDue_27 : decode cX1_doorIsDue 27 = .ok (.aload_n 0, 1) := by decide +kernel
theorem dX1_doorIsDue_28 : decode cX1_doorIsDue 28 = .ok (.getfield 9, 3) := by decide +kernel
theorem dX1_doorIsDue_31 : decode cX1_doorIsDue 31 = .ok (.getfield 74, 3) := by decide +kernel
theorem dX1_doorIsDue_34 : decode cX1_doorIsDue 34 = .ok (.if_icmp .lt 17, 3) := by decide +kernel
theorem dX1_doorIsDue_37 : decode cX1_doorIsDue 37 = .ok (.aload_n 0, 1) := by decide +kernel
theorem dX1_doorIsDue_38 : decode cX1_doorIsDue 38 = .ok (.getfield 20, 3) := by decide +kernel
theorem dX1_doorIsDue_41 : decode cX1_doorIsDue 41 = .ok (.invokevirtual 77, 3) := by decide +kernel
theorem dX1_doorIsDue_44 : decode cX1_doorIsDue 44 = .ok (.ifCond .ne 7, 3) := by decide +kernel
theorem dX1_doorIsDue_47 : decode cX1_doorIsDue 47 = .ok (.iconst 1, 1) := by decide +kernel
theorem dX1_doorIsDue_48 : decode cX1_doorIsDue 48 = .ok (.goto 4, 3) := by decide +kernel
theorem dX1_doorIsDue_51 : decode cX1_doorIsDue 51 = .ok (.iconst 0, 1) := by decide +kernel
theorem dX1_doorIsDue_52 : decode cX1_doorIsDue 52 = .ok (.istore_n 2, 1) := by decide +kernel
theorem dX1_doorIsDue_53 : decode cX1_doorIsDue 53 = .ok (.iload_n 2, 1) := by decide +kernel
theorem dX1_doorIsDue_54 : decode cX1_doorIsDue 54 = .ok (.ifCond .ne 23, 3) := by decide +kernel
theorem dX1_doorIsDue_57 : decode cX1_doorIsDue 57 = .ok (.iload_n 1, 1) := by decide +kernel
theorem dX1_doorIsDue_58 : decode cX1_doorIsDue 58 = .ok (.aload_n 0, 1) := by decide +kernel
theorem dX1_doorIsDue_59 : decode cX1_doorIsDue 59 = .ok (.getfield 20, 3) := by decide +kernel
theorem dX1_doorIsDue_62 : decode cX1_doorIsDue 62 = .ok (.iconst 3, 1) := by decide +kernel
theorem dX1_doorIsDue_63 : decode cX1_doorIsDue 63 = .ok (.invokevirtual 68, 3) := by decide +kernel
theorem dX1_doorIsDue_66 : decode cX1_doorIsDue 66 = .ok (.iadd, 1) := by decide +kernel
theorem dX1_doorIsDue_67 : decode cX1_doorIsDue 67 = .ok (.aload_n 0, 1) := by decide +kernel
theorem dX1_doorIsDue_68 : decode cX1_doorIsDue 68 = .ok (.getfield 9, 3) := by decide +kernel
theorem dX1_doorIsDue_71 : decode cX1_doorIsDue 71 = .ok (.getfield 80, 3) := by decide +kernel
theorem dX1_doorIsDue_74 : decode cX1_doorIsDue 74 = .ok (.if_icmp .ne 7, 3) := by decide +kernel
theorem dX1_doorIsDue_77 : decode cX1_doorIsDue 77 = .ok (.iconst 1, 1) := by decide +kernel
theorem dX1_doorIsDue_78 : decode cX1_doorIsDue 78 = .ok (.goto 4, 3) := by decide +kernel
theorem dX1_doorIsDue_81 : decode cX1_doorIsDue 81 = .ok (.iconst 0, 1) := by decide +kernel
theorem dX1_doorIsDue_82 : decode cX1_doorIsDue 82 = .ok (.ireturn, 1) := by decide +kernel
theorem dX1_dressByRow_0 : decode cX1_dressByRow 0 = .ok (.iconst 0, 1) := by decide +kernel
theorem dX1_dressByRow_1 : decode cX1_dressByRow 1 = .ok (.istore_n 2, 1) := by decide +kernel
theorem dX1_dressByRow_2 : decode cX1_dressByRow 2 = .ok (.iload_n 2, 1) := by decide +kernel
theorem dX1_dressByRow_3 : decode cX1_dressByRow 3 = .ok (.aload_n 0, 1) := by decide +kernel
theorem dX1_dressByRow_4 : decode cX1_dressByRow 4 = .ok (.getfield 20, 3) := by decide +kernel
theorem dX1_dressByRow_7 : decode cX1_dressByRow 7 = .ok (.getfield 83, 3) := by decide +kernel
theorem dX1_dressByRow_10 : decode cX1_dressByRow 10 = .ok (.if_icmp .ge 34, 3) := by decide +kernel
theorem dX1_dressByRow_13 : decode cX1_dressByRow 13 = .ok (.aload_n 0, 1) := by decide +kernel
theorem dX1_dressByRow_14 : decode cX1_dressByRow 14 = .ok (.getfield 20, 3) := by decide +kernel
theorem dX1_dressByRow_17 : decode cX1_dressByRow 17 = .ok (.iload_n 2, 1) := by decide +kernel
theorem dX1_dressByRow_18 : decode cX1_dressByRow 18 = .ok (.invokevirtual 86, 3) := by decide +kernel
theorem dX1_dressByRow_21 : decode cX1_dressByRow 21 = .ok (.ifCond .eq 17, 3) := by decide +kernel
theorem dX1_dressByRow_24 : decode cX1_dressByRow 24 = .ok (.aload_n 0, 1) := by decide +kernel
theorem dX1_dressByRow_25 : decode cX1_dressByRow 25 = .ok (.getfield 20, 3) := by decide +kernel
theorem dX1_dressByRow_28 : decode cX1_dressByRow 28 = .ok (.iload_n 2, 1) := by decide +kernel
theorem dX1_dressByRow_29 : decode cX1_dressByRow 29 = .ok (.aload_n 0, 1) := by decide +kernel
theorem dX1_dressByRow_30 : decode cX1_dressByRow 30 = .ok (.aload_n 1, 1) := by decide +kernel
theorem dX1_dressByRow_31 : decode cX1_dressByRow 31 = .ok (.invokevirtual 90, 3) := by decide +kernel
theorem dX1_dressByRow_34 : decode cX1_dressByRow 34 = .ok (.invokevirtual 94, 3) := by decide +kernel
theorem dX1_dressByRow_37 : decode cX1_dressByRow 37 = .ok (.pop, 1) := by decide +kernel
theorem dX1_dressByRow_38 : decode cX1_dressByRow 38 = .ok (.iinc 2 1, 3) := by decide +kernel
theorem dX1_dressByRow_41 : decode cX1_dressByRow 41 = .ok (.goto (-39), 3) := by decide +kernel
theorem dX1_dressByRow_44 : decode cX1_dressByRow 44 = .ok (.return_, 1) := by decide +kernel
theorem dX1_firstBare_0 : decode cX1_firstBare 0 = .ok (.iconst 0, 1) := by decide +kernel
theorem dX1_firstBare_1 : decode cX1_firstBare 1 = .ok (.istore_n 2, 1) := by decide +kernel
theorem dX1_firstBare_2 : decode cX1_firstBare 2 = .ok (.iload_n 2, 1) := by decide +kernel
theorem dX1_firstBare_3 : decode cX1_firstBare 3 = .ok (.aload_n 1, 1) := by decide +kernel
theorem dX1_firstBare_4 : decode cX1_firstBare 4 = .ok (.arraylength, 1) := by decide +kernel
theorem dX1_firstBare_5 : decode cX1_firstBare 5 = .ok (.if_icmp .ge 26, 3) := by decide +kernel
theorem dX1_firstBare_8 : decode cX1_firstBare 8 = .ok (.aload_n 0, 1) := by decide +kernel
theorem dX1_firstBare_9 : decode cX1_firstBare 9 = .ok (.getfield 20, 3) := by decide +kernel
theorem dX1_firstBare_12 : decode cX1_firstBare 12 = .ok (.aload_n 1, 1) := by decide +kernel
theorem dX1_firstBare_13 : decode cX1_firstBare 13 = .ok (.iload_n 2, 1) := by decide +kernel
theorem dX1_firstBare_14 : decode cX1_firstBare 14 = .ok (.iaload, 1) := by decide +kernel
theorem dX1_firstBare_15 : decode cX1_firstBare 15 = .ok (.invokevirtual 98, 3) := by decide +kernel
theorem dX1_firstBare_18 : decode cX1_firstBare 18 = .ok (.ifCond .eq 7, 3) := by decide +kernel
theorem dX1_firstBare_21 : decode cX1_firstBare 21 = .ok (.aload_n 1, 1) := by decide +kernel
theorem dX1_firstBare_22 : decode cX1_firstBare 22 = .ok (.iload_n 2, 1) := by decide +kernel
theorem dX1_firstBare_23 : decode cX1_firstBare 23 = .ok (.iaload, 1) := by decide +kernel
theorem dX1_firstBare_24 : decode cX1_firstBare 24 = .ok (.ireturn, 1) := by decide +kernel
theorem dX1_firstBare_25 : decode cX1_firstBare 25 = .ok (.iinc 2 1, 3) := by decide +kernel
theorem dX1_firstBare_28 : decode cX1_firstBare 28 = .ok (.goto (-26), 3) := by decide +kernel
theorem dX1_firstBare_31 : decode cX1_firstBare 31 = .ok (.bipush (-4), 2) := by decide +kernel
theorem dX1_firstBare_33 : decode cX1_firstBare 33 = .ok (.ireturn, 1) := by decide +kernel
theorem dX1_goByDraws_0 : decode cX1_goByDraws 0 = .ok (.aload_n 0, 1) := by decide +kernel
theorem dX1_goByDraws_1 : decode cX1_goByDraws 1 = .ok (.iconst 0, 1) := by decide +kernel
theorem dX1_goByDraws_2 : decode cX1_goByDraws 2 = .ok (.putfield 37, 3) := by decide +kernel
theorem dX1_goByDraws_5 : decode cX1_goByDraws 5 = .ok (.iconst 0, 1) := by decide +kernel
theorem dX1_goByDraws_6 : decode cX1_goByDraws 6 = .ok (.istore_n 3, 1) := by decide +kernel
theorem dX1_goByDraws_7 : decode cX1_goByDraws 7 = .ok (.iload_n 3, 1) := by decide +kernel
theorem dX1_goByDraws_8 : decode cX1_goByDraws 8 = .ok (.iload_n 2, 1) := by decide +kernel
theorem dX1_goByDraws_9 : decode cX1_goByDraws 9 = .ok (.if_icmp .ge 102, 3) := by decide +kernel
theorem dX1_goByDraws_12 : decode cX1_goByDraws 12 = .ok (.iload_n 1, 1) := by decide +kernel
theorem dX1_goByDraws_13 : decode cX1_goByDraws 13 = .ok (.iload_n 3, 1) := by decide +kernel
theorem dX1_goByDraws_14 : decode cX1_goByDraws 14 = .ok (.invokestatic 101, 3) := by decide +kernel
theorem dX1_goByDraws_17 : decode cX1_goByDraws 17 = .ok (.istore 4, 2) := by decide +kernel
theorem dX1_goByDraws_19 : decode cX1_goByDraws 19 = .ok (.aload_n 0, 1) := by decide +kernel
theorem dX1_goByDraws_20 : decode cX1_goByDraws 20 = .ok (.getfield 9, 3) := by decide +kernel
theorem dX1_goByDraws_23 : decode cX1_goByDraws 23 = .ok (.getfield 80, 3) := by decide +kernel
theorem dX1_goByDraws_26 : decode cX1_goByDraws 26 = .ok (.ifCond .le 28, 3) := by decide +kernel
theorem dX1_goByDraws_29 : decode cX1_goByDraws 29 = .ok (.aload_n 0, 1) := by decide +kernel
theorem dX1_goByDraws_30 : decode cX1_goByDraws 30 = .ok (.getfield 20, 3) := by decide +kernel
theorem dX1_goByDraws_33 : decode cX1_goByDraws 33 = .ok (.aload_n 0, 1) := by decide +kernel
theorem dX1_goByDraws_34 : decode cX1_goByDraws 34 = .ok (.getfield 20, 3) := by decide +kernel
theorem dX1_goByDraws_37 : decode cX1_goByDraws 37 = .ok (.invokevirtual 104, 3) := by decide +kernel
theorem dX1_goByDraws_40 : decode cX1_goByDraws 40 = .ok (.iload 4, 2) := by decide +kernel
theorem dX1_goByDraws_42 : decode cX1_goByDraws 42 = .ok (.aload_n 0, 1) := by decide +kernel
theorem dX1_goByDraws_43 : decode cX1_goByDraws 43 = .ok (.getfield 9, 3) := by decide +kernel
theorem dX1_goByDraws_46 : decode cX1_goByDraws 46 = .ok (.getfield 80, 3) := by decide +kernel
theorem dX1_goByDraws_49 : decode cX1_goByDraws 49 = .ok (.irem, 1) := by decide +kernel
theorem dX1_goByDraws_50 : decode cX1_goByDraws 50 = .ok (.invokevirtual 94, 3) := by decide +kernel
theorem dX1_goByDraws_53 : decode cX1_goByDraws 53 = .ok (.pop, 1) := by decide +kernel
theorem dX1_goByDraws_54 : decode cX1_goByDraws 54 = .ok (.iload 4, 2) := by decide +kernel
theorem dX1_goByDraws_56 : decode cX1_goByDraws 56 = .ok (.bipush 8, 2) := by decide +kernel
theorem dX1_goByDraws_58 : decode cX1_goByDraws 58 = .ok (.idiv, 1) := by decide +kernel
theorem dX1_goByDraws_59 : decode cX1_goByDraws 59 = .ok (.iconst 3, 1) := by decide +kernel
theorem dX1_goByDraws_60 : decode cX1_goByDraws 60 = .ok (.irem, 1) := by decide +kernel
theorem dX1_goByDraws_61 : decode cX1_goByDraws 61 = .ok (.ifCond .ne 28, 3) := by decide +kernel
theorem dX1_goByDraws_64 : decode cX1_goByDraws 64 = .ok (.aload_n 0, 1) := by decide +kernel
theorem dX1_goByDraws_65 : decode cX1_goByDraws 65 = .ok (.getfield 20, 3) := by decide +kernel
theorem dX1_goByDraws_68 : decode cX1_goByDraws 68 = .ok (.invokevirtual 77, 3) := by decide +kernel
theorem dX1_goByDraws_71 : decode cX1_goByDraws 71 = .ok (.ifCond .ne 18, 3) := by decide +kernel
theorem dX1_goByDraws_74 : decode cX1_goByDraws 74 = .ok (.aload_n 0, 1) := by decide +kernel
theorem dX1_goByDraws_75 : decode cX1_goByDraws 75 = .ok (.getfield 20, 3) := by decide +kernel
theorem dX1_goByDraws_78 : decode cX1_goByDraws 78 = .ok (.aload_n 0, 1) := by decide +kernel
theorem dX1_goByDraws_79 : decode cX1_goByDraws 79 = .ok (.getfield 20, 3) := by decide +kernel
theorem dX1_goByDraws_82 : decode cX1_goByDraws 82 = .ok (.invokevirtual 61, 3) := by decide +kernel
theorem dX1_goByDraws_85 : decode cX1_goByDraws 85 = .ok (.invokevirtual 64, 3) := by decide +kernel
theorem dX1_goByDraws_88 : decode cX1_goByDraws 88 = .ok (.pop, 1) := by decide +kernel
theorem dX1_goByDraws_89 : decode cX1_goByDraws 89 = .ok (.aload_n 0, 1) := by decide +kernel
theorem dX1_goByDraws_90 : decode cX1_goByDraws 90 = .ok (.dup, 1) := by decide +kernel
theorem dX1_goByDraws_91 : decode cX1_goByDraws 91 = .ok (.getfield 37, 3) := by decide +kernel
theorem dX1_goByDraws_94 : decode cX1_goByDraws 94 = .ok (.aload_n 0, 1) := by decide +kernel
theorem dX1_goByDraws_95 : decode cX1_goByDraws 95 = .ok (.getfield 20, 3) := by decide +kernel
theorem dX1_goByDraws_98 : decode cX1_goByDraws 98 = .ok (.invokevirtual 54, 3) := by decide +kernel
theorem dX1_goByDraws_101 : decode cX1_goByDraws 101 = .ok (.iadd, 1) := by decide +kernel
theorem dX1_goByDraws_102 : decode cX1_goByDraws 102 = .ok (.putfield 37, 3) := by decide +kernel
theorem dX1_goByDraws_105 : decode cX1_goByDraws 105 = .ok (.iinc 3 1, 3) := by decide +kernel
theorem dX1_goByDraws_108 : decode cX1_goByDraws 108 = .ok (.goto (-101), 3) := by decide +kernel
theorem dX1_goByDraws_111 : decode cX1_goByDraws 111 = .ok (.return_, 1) := by decide +kernel
theorem dX1_draw_0 : decode cX1_draw 0 = .ok (.ldc2_w 107, 3) := by decide +kernel
theorem dX1_draw_3 : decode cX1_draw 3 = .ok (.iload_n 0, 1) := by decide +kernel
theorem dX1_draw_4 : decode cX1_draw 4 = .ok (.i2l, 1) := by decide +kernel
theorem dX1_draw_5 : decode cX1_draw 5 = .ok (.lmul, 1) := by decide +kernel
theorem dX1_draw_6 : decode cX1_draw 6 = .ok (.ldc2_w 109, 3) := by decide +kernel
theorem dX1_draw_9 : decode cX1_draw 9 = .ok (.iload_n 1, 1) := by decide +kernel
theorem dX1_draw_10 : decode cX1_draw 10 = .ok (.i2l, 1) := by decide +kernel
theorem dX1_draw_11 : decode cX1_draw 11 = .ok (.lmul, 1) := by decide +kernel
theorem dX1_draw_12 : decode cX1_draw 12 = .ok (.ladd, 1) := by decide +kernel
theorem dX1_draw_13 : decode cX1_draw 13 = .ok (.lconst 1, 1) := by decide +kernel
theorem dX1_draw_14 : decode cX1_draw 14 = .ok (.ladd, 1) := by decide +kernel
theorem dX1_draw_15 : decode cX1_draw 15 = .ok (.lstore_n 2, 1) := by decide +kernel
theorem dX1_draw_16 : decode cX1_draw 16 = .ok (.lload_n 2, 1) := by decide +kernel
theorem dX1_draw_17 : decode cX1_draw 17 = .ok (.lload_n 2, 1) := by decide +kernel
theorem dX1_draw_18 : decode cX1_draw 18 = .ok (.lmul, 1) := by decide +kernel
theorem dX1_draw_19 : decode cX1_draw 19 = .ok (.ldc2_w 111, 3) := by decide +kernel
theorem dX1_draw_22 : decode cX1_draw 22 = .ok (.lrem, 1) := by decide +kernel
theorem dX1_draw_23 : decode cX1_draw 23 = .ok (.ldc2_w 113, 3) := by decide +kernel
theorem dX1_draw_26 : decode cX1_draw 26 = .ok (.ldiv, 1) := by decide +kernel
theorem dX1_draw_27 : decode cX1_draw 27 = .ok (.l2i, 1) := by decide +kernel
theorem dX1_draw_28 : decode cX1_draw 28 = .ok (.ireturn, 1) := by decide +kernel
theorem dX2_init_0 : decode cX2_init 0 = .ok (.aload_n 0, 1) := by decide +kernel
theorem dX2_init_1 : decode cX2_init 1 = .ok (.invokespecial 3, 3) := by decide +kernel
theorem dX2_init_4 : decode cX2_init 4 = .ok (.aload_n 0, 1) := by decide +kernel
theorem dX2_init_5 : decode cX2_init 5 = .ok (.bipush 6, 2) := by decide +kernel
theorem dX2_init_7 : decode cX2_init 7 = .ok (.newarray .int, 2) := by decide +kernel
theorem dX2_init_9 : decode cX2_init 9 = .ok (.putfield 9, 3) := by decide +kernel
theorem dX2_init_12 : decode cX2_init 12 = .ok (.aload_n 0, 1) := by decide +kernel
theorem dX2_init_13 : decode cX2_init 13 = .ok (.bipush 6, 2) := by decide +kernel
theorem dX2_init_15 : decode cX2_init 15 = .ok (.newarray .int, 2) := by decide +kernel
theorem dX2_init_17 : decode cX2_init 17 = .ok (.putfield 15, 3) := by decide +kernel
theorem dX2_init_20 : decode cX2_init 20 = .ok (.aload_n 0, 1) := by decide +kernel
theorem dX2_init_21 : decode cX2_init 21 = .ok (.bipush 6, 2) := by decide +kernel
theorem dX2_init_23 : decode cX2_init 23 = .ok (.newarray .int, 2) := by decide +kernel
theorem dX2_init_25 : decode cX2_init 25 = .ok (.putfield 18, 3) := by decide +kernel
theorem dX2_init_28 : decode cX2_init 28 = .ok (.aload_n 0, 1) := by decide +kernel
theorem dX2_init_29 : decode cX2_init 29 = .ok (.iconst 3, 1) := by decide +kernel
theorem dX2_init_30 : decode cX2_init 30 = .ok (.newarray .int, 2) := by decide +kernel
theorem dX2_init_32 : decode cX2_init 32 = .ok (.putfield 21, 3) := by decide +kernel
theorem dX2_init_35 : decode cX2_init 35 = .ok (.aload_n 0, 1) := by decide +kernel
theorem dX2_init_36 : decode cX2_init 36 = .ok (.iconst 3, 1) := by decide +kernel
theorem dX2_init_37 : decode cX2_init 37 = .ok (.newarray .int, 2) := by decide +kernel
theorem dX2_init_39 : decode cX2_init 39 = .ok (.putfield 24, 3) := by decide +kernel
theorem dX2_init_42 : decode cX2_init 42 = .ok (.aload_n 0, 1) := by decide +kernel
theorem dX2_init_43 : decode cX2_init 43 = .ok (.iconst 3, 1) := by decide +kernel
theorem dX2_init_44 : decode cX2_init 44 = .ok (.newarray .int, 2) := by decide +kernel
theorem dX2_init_46 : decode cX2_init 46 = .ok (.putfield 27, 3) := by decide +kernel
theorem dX2_init_49 : decode cX2_init 49 = .ok (.aload_n 0, 1) := by decide +kernel
theorem dX2_init_50 : decode cX2_init 50 = .ok (.aload_n 1, 1) := by decide +kernel
theorem dX2_init_51 : decode cX2_init 51 = .ok (.putfield 30, 3) := by decide +kernel
theorem dX2_init_54 : decode cX2_init 54 = .ok (.return_, 1) := by decide +kernel
theorem dX2_startAgain_0 : decode cX2_startAgain 0 = .ok (.iconst 0, 1) := by decide +kernel
theorem dX2_startAgain_1 : decode cX2_startAgain 1 = .ok (.istore_n 2, 1) := by decide +kernel
theorem dX2_startAgain_2 : decode cX2_startAgain 2 = .ok (.iload_n 2, 1) := by decide +kernel
theorem dX2_startAgain_3 : decode cX2_startAgain 3 = .ok (.bipush 6, 2) := by decide +kernel
theorem dX2_startAgain_5 : decode cX2_startAgain 5 = .ok (.if_icmp .ge 30, 3) := by decide +kernel
theorem dX2_startAgain_8 : decode cX2_startAgain 8 = .ok (.aload_n 0, 1) := by decide +kernel
theorem dX2_startAgain_9 : decode cX2_startAgain 9 = .ok (.getfield 9, 3) := by decide +kernel
theorem dX2_startAgain_12 : decode cX2_startAgain 12 = .ok (.iload_n 2, 1) := by decide +kernel
theorem dX2_startAgain_13 : decode cX2_startAgain 13 = .ok (.iconst 0, 1) := by decide +kernel
theorem dX2_startAgain_14 : decode cX2_startAgain 14 = .ok (.iastore, 1) := by decide +kernel
theorem dX2_startAgain_15 : decode cX2_startAgain 15 = .ok (.aload_n 0, 1) := by decide +kernel
theorem dX2_startAgain_16 : decode cX2_startAgain 16 = .ok (.getfield 15, 3) := by decide +kernel
theorem dX2_startAgain_19 : decode cX2_startAgain 19 = .ok (.iload_n 2, 1) := by decide +kernel
theorem dX2_startAgain_20 : decode cX2_startAgain 20 = .ok (.iconst 0, 1) := by decide +kernel
theorem dX2_startAgain_21 : decode cX2_startAgain 21 = .ok (.iastore, 1) := by decide +kernel
theorem dX2_startAgain_22 : decode cX2_startAgain 22 = .ok (.aload_n 0, 1) := by decide +kernel
theorem dX2_startAgain_23 : decode cX2_startAgain 23 = .ok (.getfield 18, 3) := by decide +kernel
theorem dX2_startAgain_26 : decode cX2_startAgain 26 = .ok (.iload_n 2, 1) := by decide +kernel
theorem dX2_startAgain_27 : decode cX2_startAgain 27 = .ok (.iconst 0, 1) := by decide +kernel
theorem dX2_startAgain_28 : decode cX2_startAgain 28 = .ok (.iastore, 1) := by decide +kernel
theorem dX2_startAgain_29 : decode cX2_startAgain 29 = .ok (.iinc 2 1, 3) := by decide +kernel
theorem dX2_startAgain_32 : decode cX2_startAgain 32 = .ok (.goto (-30), 3) := by decide +kernel
theorem dX2_startAgain_35 : decode cX2_startAgain 35 = .ok (.iconst 0, 1) := by decide +kernel
theorem dX2_startAgain_36 : decode cX2_startAgain 36 = .ok (.istore_n 2, 1) := by decide +kernel
theorem dX2_startAgain_37 : decode cX2_startAgain 37 = .ok (.iload_n 2, 1) := by decide +kernel
theorem dX2_startAgain_38 : decode cX2_startAgain 38 = .ok (.iconst 3, 1) := by decide +kernel
theorem dX2_startAgain_39 : decode cX2_startAgain 39 = .ok (.if_icmp .ge 31, 3) := by decide +kernel
theorem dX2_startAgain_42 : decode cX2_startAgain 42 = .ok (.aload_n 0, 1) := by decide +kernel
theorem dX2_startAgain_43 : decode cX2_startAgain 43 = .ok (.getfield 21, 3) := by decide +kernel
theorem dX2_startAgain_46 : decode cX2_startAgain 46 = .ok (.iload_n 2, 1) := by decide +kernel
theorem dX2_startAgain_47 : decode cX2_startAgain 47 = .ok (.iconst 0, 1) := by decide +kernel
theorem dX2_startAgain_48 : decode cX2_startAgain 48 = .ok (.iastore, 1) := by decide +kernel
theorem dX2_startAgain_49 : decode cX2_startAgain 49 = .ok (.aload_n 0, 1) := by decide +kernel
theorem dX2_startAgain_50 : decode cX2_startAgain 50 = .ok (.getfield 24, 3) := by decide +kernel
theorem dX2_startAgain_53 : decode cX2_startAgain 53 = .ok (.iload_n 2, 1) := by decide +kernel
theorem dX2_startAgain_54 : decode cX2_startAgain 54 = .ok (.iconst 0, 1) := by decide +kernel
theorem dX2_startAgain_55 : decode cX2_startAgain 55 = .ok (.iastore, 1) := by decide +kernel
theorem dX2_startAgain_56 : decode cX2_startAgain 56 = .ok (.aload_n 0, 1) := by decide +kernel
theorem dX2_startAgain_57 : decode cX2_startAgain 57 = .ok (.getfield 27, 3) := by decide +kernel
theorem dX2_startAgain_60 : decode cX2_startAgain 60 = .ok (.iload_n 2, 1) := by decide +kernel
theorem dX2_startAgain_61 : decode cX2_startAgain 61 = .ok (.bipush (-4), 2) := by decide +kernel
theorem dX2_startAgain_63 : decode cX2_startAgain 63 = .ok (.iastore, 1) := by decide +kernel
theorem dX2_startAgain_64 : decode cX2_startAgain 64 = .ok (.iinc 2 1, 3) := by decide +kernel
theorem dX2_startAgain_67 : decode cX2_startAgain 67 = .ok (.goto (-30), 3) := by decide +kernel
theorem dX2_startAgain_70 : decode cX2_startAgain 70 = .ok (.aload_n 0, 1) := by decide +kernel
theorem dX2_startAgain_71 : decode cX2_startAgain 71 = .ok (.iload_n 1, 1) := by decide +kernel
theorem dX2_startAgain_72 : decode cX2_startAgain 72 = .ok (.putfield 34, 3) := by decide +kernel
theorem dX2_startAgain_75 : decode cX2_startAgain 75 = .ok (.aload_n 0, 1) := by decide +kernel
theorem dX2_startAgain_76 : decode cX2_startAgain 76 = .ok (.iconst 0, 1) := by decide +kernel
theorem dX2_startAgain_77 : decode cX2_startAgain 77 = .ok (.putfield 38, 3) := by decide +kernel
theorem dX2_startAgain_80 : decode cX2_startAgain 80 = .ok (.aload_n 0, 1) := by decide +kernel
theorem dX2_startAgain_81 : decode cX2_startAgain 81 = .ok (.iconst 0, 1) := by decide +kernel
theorem dX2_startAgain_82 : decode cX2_startAgain 82 = .ok (.putfield 41, 3) := by decide +kernel
theorem dX2_startAgain_85 : decode cX2_startAgain 85 = .ok (.aload_n 0, 1) := by decide +kernel
theorem dX2_startAgain_86 : decode cX2_startAgain 86 = .ok (.dup, 1) := by decide +kernel
theorem dX2_startAgain_87 : decode cX2_startAgain 87 = .ok (.getfield 45, 3) := by decide +kernel
theorem dX2_startAgain_90 : decode cX2_startAgain 90 = .ok (.iconst 1, 1) := by decide +kernel
theorem dX2_startAgain_91 : decode cX2_startAgain 91 = .ok (.iadd, 1) := by decide +kernel
theorem dX2_startAgain_92 : decode cX2_startAgain 92 = .ok (.putfield 45, 3) := by decide +kernel
theorem dX2_startAgain_95 : decode cX2_startAgain 95 = .ok (.return_, 1) := by decide +kernel
theorem dX2_copyFrom_0 : decode cX2_copyFrom 0 = .ok (.aload_n 1, 1) := by decide +kernel
theorem dX2_copyFrom_1 : decode cX2_copyFrom 1 = .ok (.getfield 9, 3) := by decide +kernel
theorem dX2_copyFrom_4 : decode cX2_copyFrom 4 = .ok (.iconst 0, 1) := by decide +kernel
theorem dX2_copyFrom_5 : decode cX2_copyFrom 5 = .ok (.aload_n 0, 1) := by decide +kernel
theorem dX2_copyFrom_6 : decode cX2_copyFrom 6 = .ok (.getfield 9, 3) := by decide +kernel
theorem dX2_copyFrom_9 : decode cX2_copyFrom 9 = .ok (.iconst 0, 1) := by decide +kernel
theorem dX2_copyFrom_10 : decode cX2_copyFrom 10 = .ok (.bipush 6, 2) := by decide +kernel
theorem dX2_copyFrom_12 : decode cX2_copyFrom 12 = .ok (.invokestatic 48, 3) := by decide +kernel
theorem dX2_copyFrom_15 : decode cX2_copyFrom 15 = .ok (.aload_n 1, 1) := by decide +kernel
theorem dX2_copyFrom_16 : decode cX2_copyFrom 16 = .ok (.getfield 15, 3) := by decide +kernel
theorem dX2_copyFrom_19 : decode cX2_copyFrom 19 = .ok (.iconst 0, 1) := by decide +kernel
theorem dX2_copyFrom_20 : decode cX2_copyFrom 20 = .ok (.aload_n 0, 1) := by decide +kernel
theorem dX2_copyFrom_21 : decode cX2_copyFrom 21 = .ok (.getfield 15, 3) := by decide +kernel
theorem dX2_copyFrom_24 : decode cX2_copyFrom 24 = .ok (.iconst 0, 1) := by decide +kernel
theorem dX2_copyFrom_25 : decode cX2_copyFrom 25 = .ok (.bipush 6, 2) := by decide +kernel
theorem dX2_copyFrom_27 : decode cX2_copyFrom 27 = .ok (.invokestatic 48, 3) := by decide +kernel
theorem dX2_copyFrom_30 : decode cX2_copyFrom 30 = .ok (.aload_n 1, 1) := by decide +kernel
theorem dX2_copyFrom_31 : decode cX2_copyFrom 31 = .ok (.getfield 18, 3) := by decide +kernel
theorem dX2_copyFrom_34 : decode cX2_copyFrom 34 = .ok (.iconst 0, 1) := by decide +kernel
theorem dX2_copyFrom_35 : decode cX2_copyFrom 35 = .ok (.aload_n 0, 1) := by decide +kernel
theorem dX2_copyFrom_36 : decode cX2_copyFrom 36 = .ok (.getfield 18, 3) := by decide +kernel
theorem dX2_copyFrom_39 : decode cX2_copyFrom 39 = .ok (.iconst 0, 1) := by decide +kernel
theorem dX2_copyFrom_40 : decode cX2_copyFrom 40 = .ok (.bipush 6, 2) := by decide +kernel
theorem dX2_copyFrom_42 : decode cX2_copyFrom 42 = .ok (.invokestatic 48, 3) := by decide +kernel
theorem dX2_copyFrom_45 : decode cX2_copyFrom 45 = .ok (.aload_n 1, 1) := by decide +kernel
theorem dX2_copyFrom_46 : decode cX2_copyFrom 46 = .ok (.getfield 21, 3) := by decide +kernel
theorem dX2_copyFrom_49 : decode cX2_copyFrom 49 = .ok (.iconst 0, 1) := by decide +kernel
theorem dX2_copyFrom_50 : decode cX2_copyFrom 50 = .ok (.aload_n 0, 1) := by decide +kernel
theorem dX2_copyFrom_51 : decode cX2_copyFrom 51 = .ok (.getfield 21, 3) := by decide +kernel
theorem dX2_copyFrom_54 : decode cX2_copyFrom 54 = .ok (.iconst 0, 1) := by decide +kernel
theorem dX2_copyFrom_55 : decode cX2_copyFrom 55 = .ok (.iconst 3, 1) := by decide +kernel
theorem dX2_copyFrom_56 : decode cX2_copyFrom 56 = .ok (.invokestatic 48, 3) := by decide +kernel
theorem dX2_copyFrom_59 : decode cX2_copyFrom 59 = .ok (.aload_n 1, 1) := by decide +kernel
theorem dX2_copyFrom_60 : decode cX2_copyFrom 60 = .ok (.getfield 24, 3) := by decide +kernel
theorem dX2_copyFrom_63 : decode cX2_copyFrom 63 = .ok (.iconst 0, 1) := by decide +kernel
theorem dX2_copyFrom_64 : decode cX2_copyFrom 64 = .ok (.aload_n 0, 1) := by decide +kernel
theorem dX2_copyFrom_65 : decode cX2_copyFrom 65 = .ok (.getfield 24, 3) := by decide +kernel
theorem dX2_copyFrom_68 : decode cX2_copyFrom 68 = .ok (.iconst 0, 1) := by decide +kernel
theorem dX2_copyFrom_69 : decode cX2_copyFrom 69 = .ok (.iconst 3, 1) := by decide +kernel
theorem dX2_copyFrom_70 : decode cX2_copyFrom 70 = .ok (.invokestatic 48, 3) := by decide +kernel
theorem dX2_copyFrom_73 : decode cX2_copyFrom 73 = .ok (.aload_n 1, 1) := by decide +kernel
theorem dX2_copyFrom_74 : decode cX2_copyFrom 74 = .ok (.getfield 27, 3) := by decide +kernel
theorem dX2_copyFrom_77 : decode cX2_copyFrom 77 = .ok (.iconst 0, 1) := by decide +kernel
theorem dX2_copyFrom_78 : decode cX2_copyFrom 78 = .ok (.aload_n 0, 1) := by decide +kernel
theorem dX2_copyFrom_79 : decode cX2_copyFrom 79 = .ok (.getfield 27, 3) := by decide +kernel
theorem dX2_copyFrom_82 : decode cX2_copyFrom 82 = .ok (.iconst 0, 1) := by decide +kernel
theorem dX2_copyFrom_83 : decode cX2_copyFrom 83 = .ok (.iconst 3, 1) := by decide +kernel
theorem dX2_copyFrom_84 : decode cX2_copyFrom 84 = .ok (.invokestatic 48, 3) := by decide +kernel
theorem dX2_copyFrom_87 : decode cX2_copyFrom 87 = .ok (.aload_n 0, 1) := by decide +kernel
theorem dX2_copyFrom_88 : decode cX2_copyFrom 88 = .ok (.aload_n 1, 1) := by decide +kernel
theorem dX2_copyFrom_89 : decode cX2_copyFrom 89 = .ok (.getfield 34, 3) := by decide +kernel
theorem dX2_copyFrom_92 : decode cX2_copyFrom 92 = .ok (.putfield 34, 3) := by decide +kernel
theorem dX2_copyFrom_95 : decode cX2_copyFrom 95 = .ok (.aload_n 0, 1) := by decide +kernel
theorem dX2_copyFrom_96 : decode cX2_copyFrom 96 = .ok (.aload_n 1, 1) := by decide +kernel
theorem dX2_copyFrom_97 : decode cX2_copyFrom 97 = .ok (.getfield 38, 3) := by decide +kernel
theorem dX2_copyFrom_100 : decode cX2_copyFrom 100 = .ok (.putfield 38, 3) := by decide +kernel
theorem dX2_copyFrom_103 : decode cX2_copyFrom 103 = .ok (.aload_n 0, 1) := by decide +kernel
theorem dX2_copyFrom_104 : decode cX2_copyFrom 104 = .ok (.aload_n 1, 1) := by decide +kernel
theorem dX2_copyFrom_105 : decode cX2_copyFrom 105 = .ok (.getfield 41, 3) := by decide +kernel
theorem dX2_copyFrom_108 : decode cX2_copyFrom 108 = .ok (.putfield 41, 3) := by decide +kernel
theorem dX2_copyFrom_111 : decode cX2_copyFrom 111 = .ok (.aload_n 0, 1) := by decide +kernel
theorem dX2_copyFrom_112 : decode cX2_copyFrom 112 = .ok (.dup, 1) := by decide +kernel
theorem dX2_copyFrom_113 : decode cX2_copyFrom 113 = .ok (.getfield 45, 3) := by decide +kernel
theorem dX2_copyFrom_116 : decode cX2_copyFrom 116 = .ok (.iconst 1, 1) := by decide +kernel
theorem dX2_copyFrom_117 : decode cX2_copyFrom 117 = .ok (.iadd, 1) := by decide +kernel
theorem dX2_copyFrom_118 : decode cX2_copyFrom 118 = .ok (.putfield 45, 3) := by decide +kernel
theorem dX2_copyFrom_121 : decode cX2_copyFrom 121 = .ok (.return_, 1) := by decide +kernel
theorem dX2_hasWoman_0 : decode cX2_hasWoman 0 = .ok (.iload_n 1, 1) := by decide +kernel
theorem dX2_hasWoman_1 : decode cX2_hasWoman 1 = .ok (.ifCond .lt 20, 3) := by decide +kernel
theorem dX2_hasWoman_4 : decode cX2_hasWoman 4 = .ok (.iload_n 1, 1) := by decide +kernel
theorem dX2_hasWoman_5 : decode cX2_hasWoman 5 = .ok (.aload_n 0, 1) := by decide +kernel
theorem dX2_hasWoman_6 : decode cX2_hasWoman 6 = .ok (.getfield 34, 3) := by decide +kernel
theorem dX2_hasWoman_9 : decode cX2_hasWoman 9 = .ok (.if_icmp .ge 12, 3) := by decide +kernel
theorem dX2_hasWoman_12 : decode cX2_hasWoman 12 = .ok (.iload_n 1, 1) := by decide +kernel
theorem dX2_hasWoman_13 : decode cX2_hasWoman 13 = .ok (.iconst 3, 1) := by decide +kernel
theorem dX2_hasWoman_14 : decode cX2_hasWoman 14 = .ok (.if_icmp .ge 7, 3) := by decide +kernel
theorem dX2_hasWoman_17 : decode cX2_hasWoman 17 = .ok (.iconst 1, 1) := by decide +kernel
theorem dX2_hasWoman_18 : decode cX2_hasWoman 18 = .ok (.goto 4, 3) := by decide +kernel
theorem dX2_hasWoman_21 : decode cX2_hasWoman 21 = .ok (.iconst 0, 1) := by decide +kernel
theorem dX2_hasWoman_22 : decode cX2_hasWoman 22 = .ok (.ireturn, 1) := by decide +kernel
theorem dX2_isFree_0 : decode cX2_isFree 0 = .ok (.iload_n 1, 1) := by decide +kernel
theorem dX2_isFree_1 : decode cX2_isFree 1 = .ok (.ifCond .lt 29, 3) := by decide +kernel
theorem dX2_isFree_4 : decode cX2_isFree 4 = .ok (.iload_n 1, 1) := by decide +kernel
theorem dX2_isFree_5 : decode cX2_isFree 5 = .ok (.aload_n 0, 1) := by decide +kernel
theorem dX2_isFree_6 : decode cX2_isFree 6 = .ok (.getfield 34, 3) := by decide +kernel
theorem dX2_isFree_9 : decode cX2_isFree 9 = .ok (.if_icmp .ge 21, 3) := by decide +kernel
theorem dX2_isFree_12 : decode cX2_isFree 12 = .ok (.iload_n 1, 1) := by decide +kernel
theorem dX2_isFree_13 : decode cX2_isFree 13 = .ok (.iconst 3, 1) := by decide +kernel
theorem dX2_isFree_14 : decode cX2_isFree 14 = .ok (.if_icmp .ge 16, 3) := by decide +kernel
theorem dX2_isFree_17 : decode cX2_isFree 17 = .ok (.aload_n 0, 1) := by decide +kernel
theorem dX2_isFree_18 : decode cX2_isFree 18 = .ok (.getfield 21, 3) := by decide +kernel
theorem dX2_isFree_21 : decode cX2_isFree 21 = .ok (.iload_n 1, 1) := by decide +kernel
theorem dX2_isFree_22 : decode cX2_isFree 22 = .ok (.iaload, 1) := by decide +kernel
theorem dX2_isFree_23 : decode cX2_isFree 23 = .ok (.ifCond .ne 7, 3) := by decide +kernel
theorem dX2_isFree_26 : decode cX2_isFree 26 = .ok (.iconst 1, 1) := by decide +kernel
theorem dX2_isFree_27 : decode cX2_isFree 27 = .ok (.goto 4, 3) := by decide +kernel
theorem dX2_isFree_30 : decode cX2_isFree 30 = .ok (.iconst 0, 1) := by decide +kernel
theorem dX2_isFree_31 : decode cX2_isFree 31 = .ok (.ireturn, 1) := by decide +kernel
theorem dX2_isBare_0 : decode cX2_isBare 0 = .ok (.iload_n 1, 1) := by decide +kernel
theorem dX2_isBare_1 : decode cX2_isBare 1 = .ok (.ifCond .lt 33, 3) := by decide +kernel
theorem dX2_isBare_4 : decode cX2_isBare 4 = .ok (.iload_n 1, 1) := by decide +kernel
theorem dX2_isBare_5 : decode cX2_isBare 5 = .ok (.aload_n 0, 1) := by decide +kernel
theorem dX2_isBare_6 : decode cX2_isBare 6 = .ok (.getfield 30, 3) := by decide +kernel
theorem dX2_isBare_9 : decode cX2_isBare 9 = .ok (.getfield 54, 3) := by decide +kernel
theorem dX2_isBare_12 : decode cX2_isBare 12 = .ok (.if_icmp .ge 22, 3) := by decide +kernel
theorem dX2_isBare_15 : decode cX2_isBare 15 = .ok (.iload_n 1, 1) := by decide +kernel
theorem dX2_isBare_16 : decode cX2_isBare 16 = .ok (.bipush 6, 2) := by decide +kernel
theorem dX2_isBare_18 : decode cX2_isBare 18 = .ok (.if_icmp .ge 16, 3) := by decide +kernel
theorem dX2_isBare_21 : decode cX2_isBare 21 = .ok (.aload_n 0, 1) := by decide +kernel
theorem dX2_isBare_22 : decode cX2_isBare 22 = .ok (.getfield 9, 3) := by decide +kernel
theorem dX2_isBare_25 : decode cX2_isBare 25 = .ok (.iload_n 1, 1) := by decide +kernel
theorem dX2_isBare_26 : decode cX2_isBare 26 = .ok (.iaload, 1) := by decide +kernel
theorem dX2_isBare_27 : decode cX2_isBare 27 = .ok (.ifCond .ne 7, 3) := by decide +kernel
theorem dX2_isBare_30 : decode cX2_isBare 30 = .ok (.iconst 1, 1) := by decide +kernel
theorem dX2_isBare_31 : decode cX2_isBare 31 = .ok (.goto 4, 3) := by decide +kernel
theorem dX2_isBare_34 : decode cX2_isBare 34 = .ok (.iconst 0, 1) := by decide +kernel
theorem dX2_isBare_35 : decode cX2_isBare 35 = .ok (.ireturn, 1) := by decide +kernel
theorem dX2_lowestFree_0 : decode cX2_lowestFree 0 = .ok (.iconst 0, 1) := by decide +kernel
theorem dX2_lowestFree_1 : decode cX2_lowestFree 1 = .ok (.istore_n 1, 1) := by decide +kernel
theorem dX2_lowestFree_2 : decode cX2_lowestFree 2 = .ok (.iload_n 1, 1) := by decide +kernel
theorem dX2_lowestFree_3 : decode cX2_lowestFree 3 = .ok (.aload_n 0, 1) := by decide +kernel
theorem dX2_lowestFree_4 : decode cX2_lowestFree 4 = .ok (.getfield 34, 3) := by decide +kernel
theorem dX2_lowestFree_7 : decode cX2_lowestFree 7 = .ok (.if_icmp .ge 19, 3) := by decide +kernel
theorem dX2_lowestFree_10 : decode cX2_lowestFree 10 = .ok (.aload_n 0, 1) := by decide +kernel
theorem dX2_lowestFree_11 : decode cX2_lowestFree 11 = .ok (.iload_n 1, 1) := by decide +kernel
theorem dX2_lowestFree_12 : decode cX2_lowestFree 12 = .ok (.invokevirtual 59, 3) := by decide +kernel
theorem dX2_lowestFree_15 : decode cX2_lowestFree 15 = .ok (.ifCond .eq 5, 3) := by decide +kernel
theorem dX2_lowestFree_18 : decode cX2_lowestFree 18 = .ok (.iload_n 1, 1) := by decide +kernel
theorem dX2_lowestFree_19 : decode cX2_lowestFree 19 = .ok (.ireturn, 1) := by decide +kernel
theorem dX2_lowestFree_20 : decode cX2_lowestFree 20 = .ok (.iinc 1 1, 3) := by decide +kernel
theorem dX2_lowestFree_23 : decode cX2_lowestFree 23 = .ok (.goto (-21), 3) := by decide +kernel
theorem dX2_lowestFree_26 : decode cX2_lowestFree 26 = .ok (.bipush (-4), 2) := by decide +kernel
theorem dX2_lowestFree_28 : decode cX2_lowestFree 28 = .ok (.ireturn, 1) := by decide +kernel
theorem dX2_highestFree_0 : decode cX2_highestFree 0 = .ok (.aload_n 0, 1) := by decide +kernel
theorem dX2_highestFree_1 : decode cX2_highestFree 1 = .ok (.getfield 34, 3) := by decide +kernel
theorem dX2_highestFree_4 : decode cX2_highestFree 4 = .ok (.iconst 1, 1) := by decide +kernel
theorem dX2_highestFree_5 : decode cX2_highestFree 5 = .ok (.isub, 1) := by decide +kernel
theorem dX2_highestFree_6 : decode cX2_highestFree 6 = .ok (.istore_n 1, 1) := by decide +kernel
theorem dX2_highestFree_7 : decode cX2_highestFree 7 = .ok (.iload_n 1, 1) := by decide +kernel
theorem dX2_highestFree_8 : decode cX2_highestFree 8 = .ok (.ifCond .lt 19, 3) := by decide +kernel
theorem dX2_highestFree_11 : decode cX2_highestFree 11 = .ok (.aload_n 0, 1) := by decide +kernel
theorem dX2_highestFree_12 : decode cX2_highestFree 12 = .ok (.iload_n 1, 1) := by decide +kernel
theorem dX2_highestFree_13 : decode cX2_highestFree 13 = .ok (.invokevirtual 59, 3) := by decide +kernel
theorem dX2_highestFree_16 : decode cX2_highestFree 16 = .ok (.ifCond .eq 5, 3) := by decide +kernel
theorem dX2_highestFree_19 : decode cX2_highestFree 19 = .ok (.iload_n 1, 1) := by decide +kernel
theorem dX2_highestFree_20 : decode cX2_highestFree 20 = .ok (.ireturn, 1) := by decide +kernel
theorem dX2_highestFree_21 : decode cX2_highestFree 21 = .ok (.iinc 1 (-1), 3) := by decide +kernel
theorem dX2_highestFree_24 : decode cX2_highestFree 24 = .ok (.goto (-17), 3) := by decide +kernel
theorem dX2_highestFree_27 : decode cX2_highestFree 27 = .ok (.bipush (-4), 2) := by decide +kernel
theorem dX2_highestFree_29 : decode cX2_highestFree 29 = .ok (.ireturn, 1) := by decide +kernel
theorem dX2_countChildren_0 : decode cX2_countChildren 0 = .ok (.iconst 0, 1) := by decide +kernel
theorem dX2_countChildren_1 : decode cX2_countChildren 1 = .ok (.istore_n 2, 1) := by decide +kernel
theorem dX2_countChildren_2 : decode cX2_countChildren 2 = .ok (.iconst 0, 1) := by decide +kernel
theorem dX2_countChildren_3 : decode cX2_countChildren 3 = .ok (.istore_n 3, 1) := by decide +kernel
theorem dX2_countChildren_4 : decode cX2_countChildren 4 = .ok (.iload_n 3, 1) := by decide +kernel
theorem dX2_countChildren_5 : decode cX2_countChildren 5 = .ok (.aload_n 0, 1) := by decide +kernel
theorem dX2_countChildren_6 : decode cX2_countChildren 6 = .ok (.getfield 30, 3) := by decide +kernel
theorem dX2_countChildren_9 : decode cX2_countChildren 9 = .ok (.getfield 54, 3) := by decide +kernel
theorem dX2_countChildren_12 : decode cX2_countChildren 12 = .ok (.if_icmp .ge 28, 3) := by decide +kernel
theorem dX2_countChildren_15 : decode cX2_countChildren 15 = .ok (.iload_n 3, 1) := by decide +kernel
theorem dX2_countChildren_16 : decode cX2_countChildren 16 = .ok (.bipush 6, 2) := by decide +kernel
theorem dX2_countChildren_18 : decode cX2_countChildren 18 = .ok (.if_icmp .ge 22, 3) := by decide +kernel
theorem dX2_countChildren_21 : decode cX2_countChildren 21 = .ok (.aload_n 0, 1) := by decide +kernel
theorem dX2_countChildren_22 : decode cX2_countChildren 22 = .ok (.getfield 9, 3) := by decide +kernel
theorem dX2_countChildren_25 : decode cX2_countChildren 25 = .ok (.iload_n 3, 1) := by decide +kernel
theorem dX2_countChildren_26 : decode cX2_countChildren 26 = .ok (.iaload, 1) := by decide +kernel
theorem dX2_countChildren_27 : decode cX2_countChildren 27 = .ok (.iload_n 1, 1) := by decide +kernel
theorem dX2_countChildren_28 : decode cX2_countChildren 28 = .ok (.if_icmp .ne 6, 3) := by decide +kernel
theorem dX2_countChildren_31 : decode cX2_countChildren 31 = .ok (.iinc 2 1, 3) := by decide +kernel
theorem dX2_countChildren_34 : decode cX2_countChildren 34 = .ok (.iinc 3 1, 3) := by decide +kernel
theorem dX2_countChildren_37 : decode cX2_countChildren 37 = .ok (.goto (-33), 3) := by decide +kernel
theorem dX2_countChildren_40 : decode cX2_countChildren 40 = .ok (.iload_n 2, 1) := by decide +kernel
theorem dX2_countChildren_41 : decode cX2_countChildren 41 = .ok (.ireturn, 1) := by decide +kernel
theorem dX2_countWomen_0 : decode cX2_countWomen 0 = .ok (.iconst 0, 1) := by decide +kernel
theorem dX2_countWomen_1 : decode cX2_countWomen 1 = .ok (.istore_n 2, 1) := by decide +kernel
theorem dX2_countWomen_2 : decode cX2_countWomen 2 = .ok (.iconst 0, 1) := by decide +kernel
theorem dX2_countWomen_3 : decode cX2_countWomen 3 = .ok (.istore_n 3, 1) := by decide +kernel
theorem dX2_countWomen_4 : decode cX2_countWomen 4 = .ok (.iload_n 3, 1) := by decide +kernel
theorem dX2_countWomen_5 : decode cX2_countWomen 5 = .ok (.aload_n 0, 1) := by decide +kernel
theorem dX2_countWomen_6 : decode cX2_countWomen 6 = .ok (.getfield 34, 3) := by decide +kernel
theorem dX2_countWomen_9 : decode cX2_countWomen 9 = .ok (.if_icmp .ge 27, 3) := by decide +kernel
theorem dX2_countWomen_12 : decode cX2_countWomen 12 = .ok (.iload_n 3, 1) := by decide +kernel
theorem dX2_countWomen_13 : decode cX2_countWomen 13 = .ok (.iconst 3, 1) := by decide +kernel
theorem dX2_countWomen_14 : decode cX2_countWomen 14 = .ok (.if_icmp .ge 22, 3) := by decide +kernel
theorem dX2_countWomen_17 : decode cX2_countWomen 17 = .ok (.aload_n 0, 1) := by decide +kernel
theorem dX2_countWomen_18 : decode cX2_countWomen 18 = .ok (.getfield 21, 3) := by decide +kernel
theorem dX2_countWomen_21 : decode cX2_countWomen 21 = .ok (.iload_n 3, 1) := by decide +kernel
theorem dX2_countWomen_22 : decode cX2_countWomen 22 = .ok (.iaload, 1) := by decide +kernel
theorem dX2_countWomen_23 : decode cX2_countWomen 23 = .ok (.iload_n 1, 1) := by decide +kernel
theorem dX2_countWomen_24 : decode cX2_countWomen 24 = .ok (.if_icmp .ne 6, 3) := by decide +kernel
theorem dX2_countWomen_27 : decode cX2_countWomen 27 = .ok (.iinc 2 1, 3) := by decide +kernel
theorem dX2_countWomen_30 : decode cX2_countWomen 30 = .ok (.iinc 3 1, 3) := by decide +kernel
theorem dX2_countWomen_33 : decode cX2_countWomen 33 = .ok (.goto (-29), 3) := by decide +kernel
theorem dX2_countWomen_36 : decode cX2_countWomen 36 = .ok (.iload_n 2, 1) := by decide +kernel
theorem dX2_countWomen_37 : decode cX2_countWomen 37 = .ok (.ireturn, 1) := by decide +kernel
theorem dX2_oneWomanLeft_0 : decode cX2_oneWomanLeft 0 = .ok (.aload_n 0, 1) := by decide +kernel
theorem dX2_oneWomanLeft_1 : decode cX2_oneWomanLeft 1 = .ok (.iconst 3, 1) := by decide +kernel
theorem dX2_oneWomanLeft_2 : decode cX2_oneWomanLeft 2 = .ok (.invokevirtual 63, 3) := by decide +kernel
theorem dX2_oneWomanLeft_5 : decode cX2_oneWomanLeft 5 = .ok (.aload_n 0, 1) := by decide +kernel
theorem dX2_oneWomanLeft_6 : decode cX2_oneWomanLeft 6 = .ok (.getfield 34, 3) := by decide +kernel
theorem dX2_oneWomanLeft_9 : decode cX2_oneWomanLeft 9 = .ok (.iconst 1, 1) := by decide +kernel
theorem dX2_oneWomanLeft_10 : decode cX2_oneWomanLeft 10 = .ok (.isub, 1) := by decide +kernel
theorem dX2_oneWomanLeft_11 : decode cX2_oneWomanLeft 11 = .ok (.if_icmp .ne 7, 3) := by decide +kernel
theorem dX2_oneWomanLeft_14 : decode cX2_oneWomanLeft 14 = .ok (.iconst 1, 1) := by decide +kernel
theorem dX2_oneWomanLeft_15 : decode cX2_oneWomanLeft 15 = .ok (.goto 4, 3) := by decide +kernel
theorem dX2_oneWomanLeft_18 : decode cX2_oneWomanLeft 18 = .ok (.iconst 0, 1) := by decide +kernel
theorem dX2_oneWomanLeft_19 : decode cX2_oneWomanLeft 19 = .ok (.ireturn, 1) := by decide +kernel
theorem dX2_allAreOut_0 : decode cX2_allAreOut 0 = .ok (.aload_n 0, 1) := by decide +kernel
theorem dX2_allAreOut_1 : decode cX2_allAreOut 1 = .ok (.iconst 3, 1) := by decide +kernel
theorem dX2_allAreOut_2 : decode cX2_allAreOut 2 = .ok (.invokevirtual 67, 3) := by decide +kernel
theorem dX2_allAreOut_5 : decode cX2_allAreOut 5 = .ok (.aload_n 0, 1) := by decide +kernel
theorem dX2_allAreOut_6 : decode cX2_allAreOut 6 = .ok (.getfield 30, 3) := by decide +kernel
theorem dX2_allAreOut_9 : decode cX2_allAreOut 9 = .ok (.getfield 54, 3) := by decide +kernel
theorem dX2_allAreOut_12 : decode cX2_allAreOut 12 = .ok (.if_icmp .ne 7, 3) := by decide +kernel
theorem dX2_allAreOut_15 : decode cX2_allAreOut 15 = .ok (.iconst 1, 1) := by decide +kernel
theorem dX2_allAreOut_16 : decode cX2_allAreOut 16 = .ok (.goto 4, 3) := by decide +kernel
theorem dX2_allAreOut_19 : decode cX2_allAreOut 19 = .ok (.iconst 0, 1) := by decide +kernel
theorem dX2_allAreOut_20 : decode cX2_allAreOut 20 = .ok (.ireturn, 1) := by decide +kernel
theorem dX2_whoIsOut_0 : decode cX2_whoIsOut 0 = .ok (.iconst 0, 1) := by decide +kernel
theorem dX2_whoIsOut_1 : decode cX2_whoIsOut 1 = .ok (.istore_n 1, 1) := by decide +kernel
theorem dX2_whoIsOut_2 : decode cX2_whoIsOut 2 = .ok (.iconst 0, 1) := by decide +kernel
theorem dX2_whoIsOut_3 : decode cX2_whoIsOut 3 = .ok (.istore_n 2, 1) := by decide +kernel
theorem dX2_whoIsOut_4 : decode cX2_whoIsOut 4 = .ok (.iload_n 2, 1) := by decide +kernel
theorem dX2_whoIsOut_5 : decode cX2_whoIsOut 5 = .ok (.aload_n 0, 1) := by decide +kernel
theorem dX2_whoIsOut_6 : decode cX2_whoIsOut 6 = .ok (.getfield 30, 3) := by decide +kernel
theorem dX2_whoIsOut_9 : decode cX2_whoIsOut 9 = .ok (.getfield 54, 3) := by decide +kernel
theorem dX2_whoIsOut_12 : decode cX2_whoIsOut 12 = .ok (.if_icmp .ge 31, 3) := by decide +kernel
theorem dX2_whoIsOut_15 : decode cX2_whoIsOut 15 = .ok (.iload_n 2, 1) := by decide +kernel
theorem dX2_whoIsOut_16 : decode cX2_whoIsOut 16 = .ok (.bipush 6, 2) := by decide +kernel
theorem dX2_whoIsOut_18 : decode cX2_whoIsOut 18 = .ok (.if_icmp .ge 25, 3) := by decide +kernel
theorem dX2_whoIsOut_21 : decode cX2_whoIsOut 21 = .ok (.aload_n 0, 1) := by decide +kernel
theorem dX2_whoIsOut_22 : decode cX2_whoIsOut 22 = .ok (.getfield 9, 3) := by decide +kernel
theorem dX2_whoIsOut_25 : decode cX2_whoIsOut 25 = .ok (.iload_n 2, 1) := by decide +kernel
theorem dX2_whoIsOut_26 : decode cX2_whoIsOut 26 = .ok (.iaload, 1) := by decide +kernel
theorem dX2_whoIsOut_27 : decode cX2_whoIsOut 27 = .ok (.iconst 3, 1) := by decide +kernel
theorem dX2_whoIsOut_28 : decode cX2_whoIsOut 28 = .ok (.if_icmp .ne 9, 3) := by decide +kernel
theorem dX2_whoIsOut_31 : decode cX2_whoIsOut 31 = .ok (.iload_n 1, 1) := by decide +kernel
theorem dX2_whoIsOut_32 : decode cX2_whoIsOut 32 = .ok (.iconst 1, 1) := by decide +kernel
theorem dX2_whoIsOut_33 : decode cX2_whoIsOut 33 = .ok (.iload_n 2, 1) := by decide +kernel
theorem dX2_whoIsOut_34 : decode cX2_whoIsOut 34 = .ok (.ishl, 1) := by decide +kernel
theorem dX2_whoIsOut_35 : decode cX2_whoIsOut 35 = .ok (.ior, 1) := by decide +kernel
theorem dX2_whoIsOut_36 : decode cX2_whoIsOut 36 = .ok (.istore_n 1, 1) := by decide +kernel
theorem dX2_whoIsOut_37 : decode cX2_whoIsOut 37 = .ok (.iinc 2 1, 3) := by decide +kernel
theorem dX2_whoIsOut_40 : decode cX2_whoIsOut 40 = .ok (.goto (-36), 3) := by decide +kernel
theorem dX2_whoIsOut_43 : decode cX2_whoIsOut 43 = .ok (.iload_n 1, 1) := by decide +kernel
theorem dX2_whoIsOut_44 : decode cX2_whoIsOut 44 = .ok (.ireturn, 1) := by decide +kernel
theorem dX2_boiledInAll_0 : decode cX2_boiledInAll 0 = .ok (.iconst 0, 1) := by decide +kernel
theorem dX2_boiledInAll_1 : decode cX2_boiledInAll 1 = .ok (.istore_n 1, 1) := by decide +kernel
theorem dX2_boiledInAll_2 : decode cX2_boiledInAll 2 = .ok (.iconst 0, 1) := by decide +kernel
theorem dX2_boiledInAll_3 : decode cX2_boiledInAll 3 = .ok (.istore_n 2, 1) := by decide +kernel
theorem dX2_boiledInAll_4 : decode cX2_boiledInAll 4 = .ok (.iload_n 2, 1) := by decide +kernel
theorem dX2_boiledInAll_5 : decode cX2_boiledInAll 5 = .ok (.bipush 6, 2) := by decide +kernel
theorem dX2_boiledInAll_7 : decode cX2_boiledInAll 7 = .ok (.if_icmp .ge 18, 3) := by decide +kernel
theorem dX2_boiledInAll_10 : decode cX2_boiledInAll 10 = .ok (.iload_n 1, 1) := by decide +kernel
theorem dX2_boiledInAll_11 : decode cX2_boiledInAll 11 = .ok (.aload_n 0, 1) := by decide +kernel
theorem dX2_boiledInAll_12 : decode cX2_boiledInAll 12 = .ok (.getfield 18, 3) := by decide +kernel
theorem dX2_boiledInAll_15 : decode cX2_boiledInAll 15 = .ok (.iload_n 2, 1) := by decide +kernel
theorem dX2_boiledInAll_16 : decode cX2_boiledInAll 16 = .ok (.iaload, 1) := by decide +kernel
theorem dX2_boiledInAll_17 : decode cX2_boiledInAll 17 = .ok (.iadd, 1) := by decide +kernel
theorem dX2_boiledInAll_18 : decode cX2_boiledInAll 18 = .ok (.istore_n 1, 1) := by decide +kernel
theorem dX2_boiledInAll_19 : decode cX2_boiledInAll 19 = .ok (.iinc 2 1, 3) := by decide +kernel
theorem dX2_boiledInAll_22 : decode cX2_boiledInAll 22 = .ok (.goto (-18), 3) := by decide +kernel
theorem dX2_boiledInAll_25 : decode cX2_boiledInAll 25 = .ok (.iload_n 1, 1) := by decide +kernel
theorem dX2_boiledInAll_26 : decode cX2_boiledInAll 26 = .ok (.ireturn, 1) := by decide +kernel
theorem dX2_whoDresses_0 : decode cX2_whoDresses 0 = .ok (.iconst 0, 1) := by decide +kernel
theorem dX2_whoDresses_1 : decode cX2_whoDresses 1 = .ok (.istore_n 2, 1) := by decide +kernel
theorem dX2_whoDresses_2 : decode cX2_whoDresses 2 = .ok (.iload_n 2, 1) := by decide +kernel
theorem dX2_whoDresses_3 : decode cX2_whoDresses 3 = .ok (.aload_n 0, 1) := by decide +kernel
theorem dX2_whoDresses_4 : decode cX2_whoDresses 4 = .ok (.getfield 34, 3) := by decide +kernel
theorem dX2_whoDresses_7 : decode cX2_whoDresses 7 = .ok (.if_icmp .ge 36, 3) := by decide +kernel
theorem dX2_whoDresses_10 : decode cX2_whoDresses 10 = .ok (.iload_n 2, 1) := by decide +kernel
theorem dX2_whoDresses_11 : decode cX2_whoDresses 11 = .ok (.iconst 3, 1) := by decide +kernel
theorem dX2_whoDresses_12 : decode cX2_whoDresses 12 = .ok (.if_icmp .ge 31, 3) := by decide +kernel
theorem dX2_whoDresses_15 : decode cX2_whoDresses 15 = .ok (.aload_n 0, 1) := by decide +kernel
theorem dX2_whoDresses_16 : decode cX2_whoDresses 16 = .ok (.getfield 21, 3) := by decide +kernel
theorem dX2_whoDresses_19 : decode cX2_whoDresses 19 = .ok (.iload_n 2, 1) := by decide +kernel
theorem dX2_whoDresses_20 : decode cX2_whoDresses 20 = .ok (.iaload, 1) := by decide +kernel
theorem dX2_whoDresses_21 : decode cX2_whoDresses 21 = .ok (.iconst 1, 1) := by decide +kernel
theorem dX2_whoDresses_22 : decode cX2_whoDresses 22 = .ok (.if_icmp .ne 15, 3) := by decide +kernel
theorem dX2_whoDresses_25 : decode cX2_whoDresses 25 = .ok (.aload_n 0, 1) := by decide +kernel
theorem dX2_whoDresses_26 : decode cX2_whoDresses 26 = .ok (.getfield 27, 3) := by decide +kernel
theorem dX2_whoDresses_29 : decode cX2_whoDresses 29 = .ok (.iload_n 2, 1) := by decide +kernel
theorem dX2_whoDresses_30 : decode cX2_whoDresses 30 = .ok (.iaload, 1) := by decide +kernel
theorem dX2_whoDresses_31 : decode cX2_whoDresses 31 = .ok (.iload_n 1, 1) := by decide +kernel
theorem dX2_whoDresses_32 : decode cX2_whoDresses 32 = .ok (.if_icmp .ne 5, 3) := by decide +kernel
theorem dX2_whoDresses_35 : decode cX2_whoDresses 35 = .ok (.iload_n 2, 1) := by decide +kernel
theorem dX2_whoDresses_36 : decode cX2_whoDresses 36 = .ok (.ireturn, 1) := by decide +kernel
theorem dX2_whoDresses_37 : decode cX2_whoDresses 37 = .ok (.iinc 2 1, 3) := by decide +kernel
theorem dX2_whoDresses_40 : decode cX2_whoDresses 40 = .ok (.goto (-38), 3) := by decide +kernel
theorem dX2_whoDresses_43 : decode cX2_whoDresses 43 = .ok (.bipush (-4), 2) := by decide +kernel
theorem dX2_whoDresses_45 : decode cX2_whoDresses 45 = .ok (.ireturn, 1) := by decide +kernel
theorem dX2_minutesToDress_0 : decode cX2_minutesToDress 0 = .ok (.aload_n 0, 1) := by decide +kernel
theorem dX2_minutesToDress_1 : decode cX2_minutesToDress 1 = .ok (.getfield 30, 3) := by decide +kernel
theorem dX2_minutesToDress_4 : decode cX2_minutesToDress 4 = .ok (.iload_n 1, 1) := by decide +kernel
theorem dX2_minutesToDress_5 : decode cX2_minutesToDress 5 = .ok (.invokevirtual 70, 3) := by decide +kernel
theorem dX2_minutesToDress_8 : decode cX2_minutesToDress 8 = .ok (.ifCond .eq 31, 3) := by decide +kernel
theorem dX2_minutesToDress_11 : decode cX2_minutesToDress 11 = .ok (.aload_n 0, 1) := by decide +kernel
theorem dX2_minutesToDress_12 : decode cX2_minutesToDress 12 = .ok (.getfield 30, 3) := by decide +kernel
theorem dX2_minutesToDress_15 : decode cX2_minutesToDress 15 = .ok (.getfield 73, 3) := by decide +kernel
theorem dX2_minutesToDress_18 : decode cX2_minutesToDress 18 = .ok (.iload_n 1, 1) := by decide +kernel
theorem dX2_minutesToDress_19 : decode cX2_minutesToDress 19 = .ok (.iaload, 1) := by decide +kernel
theorem dX2_minutesToDress_20 : decode cX2_minutesToDress 20 = .ok (.aload_n 0, 1) := by decide +kernel
theorem dX2_minutesToDress_21 : decode cX2_minutesToDress 21 = .ok (.getfield 30, 3) := by decide +kernel
theorem dX2_minutesToDress_24 : decode cX2_minutesToDress 24 = .ok (.getfield 76, 3) := by decide +kernel
theorem dX2_minutesToDress_27 : decode cX2_minutesToDress 27 = .ok (.iload_n 1, 1) := by decide +kernel
theorem dX2_minutesToDress_28 : decode cX2_minutesToDress 28 = .ok (.iaload, 1) := by decide +kernel
theorem dX2_minutesToDress_29 : decode cX2_minutesToDress 29 = .ok (.aload_n 0, 1) := by decide +kernel
theorem dX2_minutesToDress_30 : decode cX2_minutesToDress 30 = .ok (.getfield 41, 3) := by decide +kernel
theorem dX2_minutesToDress_33 : decode cX2_minutesToDress 33 = .ok (.invokestatic 79, 3) := by decide +kernel
theorem dX2_minutesToDress_36 : decode cX2_minutesToDress 36 = .ok (.goto 5, 3) := by decide +kernel
theorem dX2_minutesToDress_39 : decode cX2_minutesToDress 39 = .ok (.bipush (-4), 2) := by decide +kernel
theorem dX2_minutesToDress_41 : decode cX2_minutesToDress 41 = .ok (.ireturn, 1) := by decide +kernel
theorem dX2_canDress_0 : decode cX2_canDress 0 = .ok (.aload_n 0, 1) := by decide +kernel
theorem dX2_canDress_1 : decode cX2_canDress 1 = .ok (.iload_n 1, 1) := by decide +kernel
theorem dX2_canDress_2 : decode cX2_canDress 2 = .ok (.invokevirtual 59, 3) := by decide +kernel
theorem dX2_canDress_5 : decode cX2_canDress 5 = .ok (.ifCond .eq 15, 3) := by decide +kernel
theorem dX2_canDress_8 : decode cX2_canDress 8 = .ok (.aload_n 0, 1) := by decide +kernel
theorem dX2_canDress_9 : decode cX2_canDress 9 = .ok (.iload_n 2, 1) := by decide +kernel
theorem dX2_canDress_10 : decode cX2_canDress 10 = .ok (.invokevirtual 83, 3) := by decide +kernel
theorem dX2_canDress_13 : decode cX2_canDress 13 = .ok (.ifCond .eq 7, 3) := by decide +kernel
theorem dX2_canDress_16 : decode cX2_canDress 16 = .ok (.iconst 1, 1) := by decide +kernel
theorem dX2_canDress_17 : decode cX2_canDress 17 = .ok (.goto 4, 3) := by decide +kernel
theorem dX2_canDress_20 : decode cX2_canDress 20 = .ok (.iconst 0, 1) := by decide +kernel
theorem dX2_canDress_21 : decode cX2_canDress 21 = .ok (.ireturn, 1) := by decide +kernel
theorem dX2_dress_0 : decode cX2_dress 0 = .ok (.aload_n 0, 1) := by decide +kernel
theorem dX2_dress_1 : decode cX2_dress 1 = .ok (.iload_n 1, 1) := by decide +kernel
theorem dX2_dress_2 : decode cX2_dress 2 = .ok (.iload_n 2, 1) := by decide +kernel
theorem dX2_dress_3 : decode cX2_dress 3 = .ok (.invokevirtual 86, 3) := by decide +kernel
theorem dX2_dress_6 : decode cX2_dress 6 = .ok (.ifCond .ne 6, 3) := by decide +kernel
theorem dX2_dress_9 : decode cX2_dress 9 = .ok (.bipush (-2), 2) := by decide +kernel
theorem dX2_dress_11 : decode cX2_dress 11 = .ok (.ireturn, 1) := by decide +kernel
theorem dX2_dress_12 : decode cX2_dress 12 = .ok (.aload_n 0, 1) := by decide +kernel
theorem dX2_dress_13 : decode cX2_dress 13 = .ok (.getfield 21, 3) := by decide +kernel
theorem dX2_dress_16 : decode cX2_dress 16 = .ok (.iload_n 1, 1) := by decide +kernel
theorem dX2_dress_17 : decode cX2_dress 17 = .ok (.iconst 1, 1) := by decide +kernel
theorem dX2_dress_18 : decode cX2_dress 18 = .ok (.iastore, 1) := by decide +kernel
theorem dX2_dress_19 : decode cX2_dress 19 = .ok (.aload_n 0, 1) := by decide +kernel
theorem dX2_dress_20 : decode cX2_dress 20 = .ok (.getfield 24, 3) := by decide +kernel
theorem dX2_dress_23 : decode cX2_dress 23 = .ok (.iload_n 1, 1) := by decide +kernel
theorem dX2_dress_24 : decode cX2_dress 24 = .ok (.aload_n 0, 1) := by decide +kernel
theorem dX2_dress_25 : decode cX2_dress 25 = .ok (.iload_n 2, 1) := by decide +kernel
theorem dX2_dress_26 : decode cX2_dress 26 = .ok (.invokevirtual 90, 3) := by decide +kernel
theorem dX2_dress_29 : decode cX2_dress 29 = .ok (.iastore, 1) := by decide +kernel
theorem dX2_dress_30 : decode cX2_dress 30 = .ok (.aload_n 0, 1) := by decide +kernel
theorem dX2_dress_31 : decode cX2_dress 31 = .ok (.getfield 27, 3) := by decide +kernel
theorem dX2_dress_34 : decode cX2_dress 34 = .ok (.iload_n 1, 1) := by decide +kernel
theorem dX2_dress_35 : decode cX2_dress 35 = .ok (.iload_n 2, 1) := by decide +kernel
theorem dX2_dress_36 : decode cX2_dress 36 = .ok (.iastore, 1) := by decide +kernel
theorem dX2_dress_37 : decode cX2_dress 37 = .ok (.aload_n 0, 1) := by decide +kernel
theorem dX2_dress_38 : decode cX2_dress 38 = .ok (.getfield 9, 3) := by decide +kernel
theorem dX2_dress_41 : decode cX2_dress 41 = .ok (.iload_n 2, 1) := by decide +kernel
theorem dX2_dress_42 : decode cX2_dress 42 = .ok (.iconst 1, 1) := by decide +kernel
theorem dX2_dress_43 : decode cX2_dress 43 = .ok (.iastore, 1) := by decide +kernel
theorem dX2_dress_44 : decode cX2_dress 44 = .ok (.aload_n 0, 1) := by decide +kernel
theorem dX2_dress_45 : decode cX2_dress 45 = .ok (.dup, 1) := by decide +kernel
theorem dX2_dress_46 : decode cX2_dress 46 = .ok (.getfield 45, 3) := by decide +kernel
theorem dX2_dress_49 : decode cX2_dress 49 = .ok (.iconst 1, 1) := by decide +kernel
theorem dX2_dress_50 : decode cX2_dress 50 = .ok (.iadd, 1) := by decide +kernel
theorem dX2_dress_51 : decode cX2_dress 51 = .ok (.putfield 45, 3) := by decide +kernel
theorem dX2_dress_54 : decode cX2_dress 54 = .ok (.aload_n 0, 1) := by decide +kernel
theorem dX2_dress_55 : decode cX2_dress 55 = .ok (.getfield 24, 3) := by decide +kernel
theorem dX2_dress_58 : decode cX2_dress 58 = .ok (.iload_n 1, 1) := by decide +kernel
theorem dX2_dress_59 : decode cX2_dress 59 = .ok (.iaload, 1) := by decide +kernel
theorem dX2_dress_60 : decode cX2_dress 60 = .ok (.ireturn, 1) := by decide +kernel
theorem dX2_canLayThings_0 : decode cX2_canLayThings 0 = .ok (.aload_n 0, 1) := by decide +kernel
theorem dX2_canLayThings_1 : decode cX2_canLayThings 1 = .ok (.iload_n 1, 1) := by decide +kernel
theorem dX2_canLayThings_2 : decode cX2_canLayThings 2 = .ok (.invokevirtual 59, 3) := by decide +kernel
theorem dX2_canLayThings_5 : decode cX2_canLayThings 5 = .ok (.ifCond .eq 22, 3) := by decide +kernel
theorem dX2_canLayThings_8 : decode cX2_canLayThings 8 = .ok (.aload_n 0, 1) := by decide +kernel
theorem dX2_canLayThings_9 : decode cX2_canLayThings 9 = .ok (.getfield 41, 3) := by decide +kernel
theorem dX2_canLayThings_12 : decode cX2_canLayThings 12 = .ok (.ifCond .ne 15, 3) := by decide +kernel
theorem dX2_canLayThings_15 : decode cX2_canLayThings 15 = .ok (.aload_n 0, 1) := by decide +kernel
theorem dX2_canLayThings_16 : decode cX2_canLayThings 16 = .ok (.iconst 2, 1) := by decide +kernel
theorem dX2_canLayThings_17 : decode cX2_canLayThings 17 = .ok (.invokevirtual 63, 3) := by decide +kernel
theorem dX2_canLayThings_20 : decode cX2_canLayThings 20 = .ok (.ifCond .ne 7, 3) := by decide +kernel
theorem dX2_canLayThings_23 : decode cX2_canLayThings 23 = .ok (.iconst 1, 1) := by decide +kernel
theorem dX2_canLayThings_24 : decode cX2_canLayThings 24 = .ok (.goto 4, 3) := by decide +kernel
theorem dX2_canLayThings_27 : decode cX2_canLayThings 27 = .ok (.iconst 0, 1) := by decide +kernel
theorem dX2_canLayThings_28 : decode cX2_canLayThings 28 = .ok (.ireturn, 1) := by decide +kernel
theorem dX2_layThings_0 : decode cX2_layThings 0 = .ok (.aload_n 0, 1) := by decide +kernel
theorem dX2_layThings_1 : decode cX2_layThings 1 = .ok (.iload_n 1, 1) := by decide +kernel
theorem dX2_layThings_2 : decode cX2_layThings 2 = .ok (.invokevirtual 93, 3) := by decide +kernel
theorem dX2_layThings_5 : decode cX2_layThings 5 = .ok (.ifCond .ne 6, 3) := by decide +kernel
theorem dX2_layThings_8 : decode cX2_layThings 8 = .ok (.bipush (-2), 2) := by decide +kernel
theorem dX2_layThings_10 : decode cX2_layThings 10 = .ok (.ireturn, 1) := by decide +kernel
theorem dX2_layThings_11 : decode cX2_layThings 11 = .ok (.aload_n 0, 1) := by decide +kernel
theorem dX2_layThings_12 : decode cX2_layThings 12 = .ok (.getfield 21, 3) := by decide +kernel
theorem dX2_layThings_15 : decode cX2_layThings 15 = .ok (.iload_n 1, 1) := by decide +kernel
theorem dX2_layThings_16 : decode cX2_layThings 16 = .ok (.iconst 2, 1) := by decide +kernel
theorem dX2_layThings_17 : decode cX2_layThings 17 = .ok (.iastore, 1) := by decide +kernel
theorem dX2_layThings_18 : decode cX2_layThings 18 = .ok (.aload_n 0, 1) := by decide +kernel
theorem dX2_layThings_19 : decode cX2_layThings 19 = .ok (.getfield 24, 3) := by decide +kernel
theorem dX2_layThings_22 : decode cX2_layThings 22 = .ok (.iload_n 1, 1) := by decide +kernel
theorem dX2_layThings_23 : decode cX2_layThings 23 = .ok (.iconst 3, 1) := by decide +kernel
theorem dX2_layThings_24 : decode cX2_layThings 24 = .ok (.iastore, 1) := by decide +kernel
theorem dX2_layThings_25 : decode cX2_layThings 25 = .ok (.aload_n 0, 1) := by decide +kernel
theorem dX2_layThings_26 : decode cX2_layThings 26 = .ok (.dup, 1) := by decide +kernel
theorem dX2_layThings_27 : decode cX2_layThings 27 = .ok (.getfield 45, 3) := by decide +kernel
theorem dX2_layThings_30 : decode cX2_layThings 30 = .ok (.iconst 1, 1) := by decide +kernel
theorem dX2_layThings_31 : decode cX2_layThings 31 = .ok (.iadd, 1) := by decide +kernel
theorem dX2_layThings_32 : decode cX2_layThings 32 = .ok (.putfield 45, 3) := by decide +kernel
theorem dX2_layThings_35 : decode cX2_layThings 35 = .ok (.aload_n 0, 1) := by decide +kernel
theorem dX2_layThings_36 : decode cX2_layThings 36 = .ok (.getfield 24, 3) := by decide +kernel
theorem dX2_layThings_39 : decode cX2_layThings 39 = .ok (.iload_n 1, 1) := by decide +kernel
theorem dX2_layThings_40 : decode cX2_layThings 40 = .ok (.iaload, 1) := by decide +kernel
theorem dX2_layThings_41 : decode cX2_layThings 41 = .ok (.ireturn, 1) := by decide +kernel
theorem dX2_canOpenDoor_0 : decode cX2_canOpenDoor 0 = .ok (.aload_n 0, 1) := by decide +kernel
theorem dX2_canOpenDoor_1 : decode cX2_canOpenDoor 1 = .ok (.iload_n 1, 1) := by decide +kernel
theorem dX2_canOpenDoor_2 : decode cX2_canOpenDoor 2 = .ok (.invokevirtual 59, 3) := by decide +kernel
theorem dX2_canOpenDoor_5 : decode cX2_canOpenDoor 5 = .ok (.ifCond .eq 15, 3) := by decide +kernel
theorem dX2_canOpenDoor_8 : decode cX2_canOpenDoor 8 = .ok (.aload_n 0, 1) := by decide +kernel
theorem dX2_canOpenDoor_9 : decode cX2_canOpenDoor 9 = .ok (.iconst 2, 1) := by decide +kernel
theorem dX2_canOpenDoor_10 : decode cX2_canOpenDoor 10 = .ok (.invokevirtual 67, 3) := by decide +kernel
theorem dX2_canOpenDoor_13 : decode cX2_canOpenDoor 13 = .ok (.ifCond .le 7, 3) := by decide +kernel
theorem dX2_canOpenDoor_16 : decode cX2_canOpenDoor 16 = .ok (.iconst 1, 1) := by decide +kernel
theorem dX2_canOpenDoor_17 : decode cX2_canOpenDoor 17 = .ok (.goto 4, 3) := by decide +kernel
theorem dX2_canOpenDoor_20 : decode cX2_canOpenDoor 20 = .ok (.iconst 0, 1) := by decide +kernel
theorem dX2_canOpenDoor_21 : decode cX2_canOpenDoor 21 = .ok (.ireturn, 1) := by decide +kernel
theorem dX2_openDoor_0 : decode cX2_openDoor 0 = .ok (.aload_n 0, 1) := by decide +kernel
theorem dX2_openDoor_1 : decode cX2_openDoor 1 = .ok (.iload_n 1, 1) := by decide +kernel
theorem dX2_openDoor_2 : decode cX2_openDoor 2 = .ok (.invokevirtual 96, 3) := by decide +kernel
theorem dX2_openDoor_5 : decode cX2_openDoor 5 = .ok (.ifCond .ne 6, 3) := by decide +kernel
theorem dX2_openDoor_8 : decode cX2_openDoor 8 = .ok (.bipush (-2), 2) := by decide +kernel
theorem dX2_openDoor_10 : decode cX2_openDoor 10 = .ok (.ireturn, 1) := by decide +kernel
theorem dX2_openDoor_11 : decode cX2_openDoor 11 = .ok (.aload_n 0, 1) := by decide +kernel
theorem dX2_openDoor_12 : decode cX2_openDoor 12 = .ok (.invokevirtual 99, 3) := by decide +kernel
theorem dX2_openDoor_15 : decode cX2_openDoor 15 = .ok (.ifCond .eq 8, 3) := by decide +kernel
theorem dX2_openDoor_18 : decode cX2_openDoor 18 = .ok (.bipush 6, 2) := by decide +kernel
theorem dX2_openDoor_20 : decode cX2_openDoor 20 = .ok (.goto 10, 3) := by decide +kernel
theorem dX2_openDoor_23 : decode cX2_openDoor 23 = .ok (.aload_n 0, 1) := by decide +kernel
theorem dX2_openDoor_24 : decode cX2_openDoor 24 = .ok (.getfield 30, 3) := by decide +kernel
theorem dX2_openDoor_27 : decode cX2_openDoor 27 = .ok (.getfield 103, 3) := by decide +kernel
theorem dX2_openDoor_30 : decode cX2_openDoor 30 = .ok (.istore_n 2, 1) := by decide +kernel
theorem dX2_openDoor_31 : decode cX2_openDoor 31 = .ok (.aload_n 0, 1) := by decide +kernel
theorem dX2_openDoor_32 : decode cX2_openDoor 32 = .ok (.getfield 21, 3) := by decide +kernel
theorem dX2_openDoor_35 : decode cX2_openDoor 35 = .ok (.iload_n 1, 1) := by decide +kernel
theorem dX2_openDoor_36 : decode cX2_openDoor 36 = .ok (.iconst 3, 1) := by decide +kernel
theorem dX2_openDoor_37 : decode cX2_openDoor 37 = .ok (.iastore, 1) := by decide +kernel
theorem dX2_openDoor_38 : decode cX2_openDoor 38 = .ok (.aload_n 0, 1) := by decide +kernel
theorem dX2_openDoor_39 : decode cX2_openDoor 39 = .ok (.dup, 1) := by decide +kernel
theorem dX2_openDoor_40 : decode cX2_openDoor 40 = .ok (.getfield 45, 3) := by decide +kernel
theorem dX2_openDoor_43 : decode cX2_openDoor 43 = .ok (.iconst 1, 1) := by decide +kernel
theorem dX2_openDoor_44 : decode cX2_openDoor 44 = .ok (.iadd, 1) := by decide +kernel
theorem dX2_openDoor_45 : decode cX2_openDoor 45 = .ok (.putfield 45, 3) := by decide +kernel
theorem dX2_openDoor_48 : decode cX2_openDoor 48 = .ok (.iconst 0, 1) := by decide +kernel
theorem dX2_openDoor_49 : decode cX2_openDoor 49 = .ok (.istore_n 3, 1) := by decide +kernel
theorem dX2_openDoor_50 : decode cX2_openDoor 50 = .ok (.iconst 0, 1) := by decide +kernel
theorem dX2_openDoor_51 : decode cX2_openDoor 51 = .ok (.istore 4, 2) := by decide +kernel
theorem dX2_openDoor_53 : decode cX2_openDoor 53 = .ok (.iload 4, 2) := by decide +kernel
theorem dX2_openDoor_55 : decode cX2_openDoor 55 = .ok (.iload_n 2, 1) := by decide +kernel
theorem dX2_openDoor_56 : decode cX2_openDoor 56 = .ok (.if_icmp .ge 42, 3) := by decide +kernel
theorem dX2_openDoor_59 : decode cX2_openDoor 59 = .ok (.aload_n 0, 1) := by decide +kernel
theorem dX2_openDoor_60 : decode cX2_openDoor 60 = .ok (.invokevirtual 106, 3) := by decide +kernel
theorem dX2_openDoor_63 : decode cX2_openDoor 63 = .ok (.istore 5, 2) := by decide +kernel
theorem dX2_openDoor_65 : decode cX2_openDoor 65 = .ok (.aload_n 0, 1) := by decide +kernel
theorem dX2_openDoor_66 : decode cX2_openDoor 66 = .ok (.getfield 30, 3) := by decide +kernel
theorem dX2_openDoor_69 : decode cX2_openDoor 69 = .ok (.iload 5, 2) := by decide +kernel
theorem dX2_openDoor_71 : decode cX2_openDoor 71 = .ok (.invokevirtual 70, 3) := by decide +kernel
theorem dX2_openDoor_74 : decode cX2_openDoor 74 = .ok (.ifCond .eq 18, 3) := by decide +kernel
theorem dX2_openDoor_77 : decode cX2_openDoor 77 = .ok (.aload_n 0, 1) := by decide +kernel
theorem dX2_openDoor_78 : decode cX2_openDoor 78 = .ok (.getfield 9, 3) := by decide +kernel
theorem dX2_openDoor_81 : decode cX2_openDoor 81 = .ok (.iload 5, 2) := by decide +kernel
theorem dX2_openDoor_83 : decode cX2_openDoor 83 = .ok (.iconst 3, 1) := by decide +kernel
theorem dX2_openDoor_84 : decode cX2_openDoor 84 = .ok (.iastore, 1) := by decide +kernel
theorem dX2_openDoor_85 : decode cX2_openDoor 85 = .ok (.iload_n 3, 1) := by decide +kernel
theorem dX2_openDoor_86 : decode cX2_openDoor 86 = .ok (.iconst 1, 1) := by decide +kernel
theorem dX2_openDoor_87 : decode cX2_openDoor 87 = .ok (.iload 5, 2) := by decide +kernel
theorem dX2_openDoor_89 : decode cX2_openDoor 89 = .ok (.ishl, 1) := by decide +kernel
theorem dX2_openDoor_90 : decode cX2_openDoor 90 = .ok (.ior, 1) := by decide +kernel
theorem dX2_openDoor_91 : decode cX2_openDoor 91 = .ok (.istore_n 3, 1) := by decide +kernel
theorem dX2_openDoor_92 : decode cX2_openDoor 92 = .ok (.iinc 4 1, 3) := by decide +kernel
theorem dX2_openDoor_95 : decode cX2_openDoor 95 = .ok (.goto (-42), 3) := by decide +kernel
theorem dX2_openDoor_98 : decode cX2_openDoor 98 = .ok (.iload_n 3, 1) := by decide +kernel
theorem dX2_openDoor_99 : decode cX2_openDoor 99 = .ok (.ireturn, 1) := by decide +kernel
theorem dX2_hottest_0 : decode cX2_hottest 0 = .ok (.bipush (-4), 2) := by decide +kernel
theorem dX2_hottest_2 : decode cX2_hottest 2 = .ok (.istore_n 1, 1) := by decide +kernel
theorem dX2_hottest_3 : decode cX2_hottest 3 = .ok (.iconst (-1), 1) := by decide +kernel
theorem dX2_hottest_4 : decode cX2_hottest 4 = .ok (.istore_n 2, 1) := by decide +kernel
theorem dX2_hottest_5 : decode cX2_hottest 5 = .ok (.iconst 0, 1) := by decide +kernel
theorem dX2_hottest_6 : decode cX2_hottest 6 = .ok (.istore_n 3, 1) := by decide +kernel
theorem dX2_hottest_7 : decode cX2_hottest 7 = .ok (.iload_n 3, 1) := by decide +kernel
theorem dX2_hottest_8 : decode cX2_hottest 8 = .ok (.aload_n 0, 1) := by decide +kernel
theorem dX2_hottest_9 : decode cX2_hottest 9 = .ok (.getfield 30, 3) := by decide +kernel
theorem dX2_hottest_12 : decode cX2_hottest 12 = .ok (.getfield 54, 3) := by decide +kernel
theorem dX2_hottest_15 : decode cX2_hottest 15 = .ok (.if_icmp .ge 44, 3) := by decide +kernel
theorem dX2_hottest_18 : decode cX2_hottest 18 = .ok (.iload_n 3, 1) := by decide +kernel
theorem dX2_hottest_19 : decode cX2_hottest 19 = .ok (.bipush 6, 2) := by decide +kernel
theorem dX2_hottest_21 : decode cX2_hottest 21 = .ok (.if_icmp .ge 38, 3) := by decide +kernel
theorem dX2_hottest_24 : decode cX2_hottest 24 = .ok (.aload_n 0, 1) := by decide +kernel
theorem dX2_hottest_25 : decode cX2_hottest 25 = .ok (.getfield 9, 3) := by decide +kernel
theorem dX2_hottest_28 : decode cX2_hottest 28 = .ok (.iload_n 3, 1) := by decide +kernel
theorem dX2_hottest_29 : decode cX2_hottest 29 = .ok (.iaload, 1) := by decide +kernel
theorem dX2_hottest_30 : decode cX2_hottest 30 = .ok (.iconst 2, 1) := by decide +kernel
theorem dX2_hottest_31 : decode cX2_hottest 31 = .ok (.if_icmp .ne 22, 3) := by decide +kernel
theorem dX2_hottest_34 : decode cX2_hottest 34 = .ok (.aload_n 0, 1) := by decide +kernel
theorem dX2_hottest_35 : decode cX2_hottest 35 = .ok (.getfield 15, 3) := by decide +kernel
theorem dX2_hottest_38 : decode cX2_hottest 38 = .ok (.iload_n 3, 1) := by decide +kernel
theorem dX2_hottest_39 : decode cX2_hottest 39 = .ok (.iaload, 1) := by decide +kernel
theorem dX2_hottest_40 : decode cX2_hottest 40 = .ok (.iload_n 2, 1) := by decide +kernel
theorem dX2_hottest_41 : decode cX2_hottest 41 = .ok (.if_icmp .le 12, 3) := by decide +kernel
theorem dX2_hottest_44 : decode cX2_hottest 44 = .ok (.iload_n 3, 1) := by decide +kernel
theorem dX2_hottest_45 : decode cX2_hottest 45 = .ok (.istore_n 1, 1) := by decide +kernel
theorem dX2_hottest_46 : decode cX2_hottest 46 = .ok (.aload_n 0, 1) := by decide +kernel
theorem dX2_hottest_47 : decode cX2_hottest 47 = .ok (.getfield 15, 3) := by decide +kernel
theorem dX2_hottest_50 : decode cX2_hottest 50 = .ok (.iload_n 3, 1) := by decide +kernel
theorem dX2_hottest_51 : decode cX2_hottest 51 = .ok (.iaload, 1) := by decide +kernel
theorem dX2_hottest_52 : decode cX2_hottest 52 = .ok (.istore_n 2, 1) := by decide +kernel
theorem dX2_hottest_53 : decode cX2_hottest 53 = .ok (.iinc 3 1, 3) := by decide +kernel
theorem dX2_hottest_56 : decode cX2_hottest 56 = .ok (.goto (-49), 3) := by decide +kernel
theorem dX2_hottest_59 : decode cX2_hottest 59 = .ok (.iload_n 1, 1) := by decide +kernel
theorem dX2_hottest_60 : decode cX2_hottest 60 = .ok (.ireturn, 1) := by decide +kernel
theorem dX2_goMinute_0 : decode cX2_goMinute 0 = .ok (.aload_n 0, 1) := by decide +kernel
theorem dX2_goMinute_1 : decode cX2_goMinute 1 = .ok (.invokevirtual 110, 3) := by decide +kernel
theorem dX2_goMinute_4 : decode cX2_goMinute 4 = .ok (.istore_n 1, 1) := by decide +kernel
theorem dX2_goMinute_5 : decode cX2_goMinute 5 = .ok (.aload_n 0, 1) := by decide +kernel
theorem dX2_goMinute_6 : decode cX2_goMinute 6 = .ok (.invokevirtual 113, 3) := by decide +kernel
theorem dX2_goMinute_9 : decode cX2_goMinute 9 = .ok (.aload_n 0, 1) := by decide +kernel
theorem dX2_goMinute_10 : decode cX2_goMinute 10 = .ok (.dup, 1) := by decide +kernel
theorem dX2_goMinute_11 : decode cX2_goMinute 11 = .ok (.getfield 38, 3) := by decide +kernel
theorem dX2_goMinute_14 : decode cX2_goMinute 14 = .ok (.iconst 1, 1) := by decide +kernel
theorem dX2_goMinute_15 : decode cX2_goMinute 15 = .ok (.iadd, 1) := by decide +kernel
theorem dX2_goMinute_16 : decode cX2_goMinute 16 = .ok (.putfield 38, 3) := by decide +kernel
theorem dX2_goMinute_19 : decode cX2_goMinute 19 = .ok (.aload_n 0, 1) := by decide +kernel
theorem dX2_goMinute_20 : decode cX2_goMinute 20 = .ok (.dup, 1) := by decide +kernel
theorem dX2_goMinute_21 : decode cX2_goMinute 21 = .ok (.getfield 45, 3) := by decide +kernel
theorem dX2_goMinute_24 : decode cX2_goMinute 24 = .ok (.iconst 1, 1) := by decide +kernel
theorem dX2_goMinute_25 : decode cX2_goMinute 25 = .ok (.iadd, 1) := by decide +kernel
theorem dX2_goMinute_26 : decode cX2_goMinute 26 = .ok (.putfield 45, 3) := by decide +kernel
theorem dX2_goMinute_29 : decode cX2_goMinute 29 = .ok (.iload_n 1, 1) := by decide +kernel
theorem dX2_goMinute_30 : decode cX2_goMinute 30 = .ok (.ireturn, 1) := by decide +kernel
theorem dX2_heat_0 : decode cX2_heat 0 = .ok (.iconst 0, 1) := by decide +kernel
theorem dX2_heat_1 : decode cX2_heat 1 = .ok (.istore_n 1, 1) := by decide +kernel
theorem dX2_heat_2 : decode cX2_heat 2 = .ok (.iconst 0, 1) := by decide +kernel
theorem dX2_heat_3 : decode cX2_heat 3 = .ok (.istore_n 2, 1) := by decide +kernel
theorem dX2_heat_4 : decode cX2_heat 4 = .ok (.iload_n 2, 1) := by decide +kernel
theorem dX2_heat_5 : decode cX2_heat 5 = .ok (.aload_n 0, 1) := by decide +kernel
theorem dX2_heat_6 : decode cX2_heat 6 = .ok (.getfield 30, 3) := by decide +kernel
theorem dX2_heat_9 : decode cX2_heat 9 = .ok (.getfield 54, 3) := by decide +kernel
theorem dX2_heat_12 : decode cX2_heat 12 = .ok (.if_icmp .ge 103, 3) := by decide +kernel
theorem dX2_heat_15 : decode cX2_heat 15 = .ok (.iload_n 2, 1) := by decide +kernel
theorem dX2_heat_16 : decode cX2_heat 16 = .ok (.bipush 6, 2) := by decide +kernel
theorem dX2_heat_18 : decode cX2_heat 18 = .ok (.if_icmp .ge 97, 3) := by decide +kernel
theorem dX2_heat_21 : decode cX2_heat 21 = .ok (.aload_n 0, 1) := by decide +kernel
theorem dX2_heat_22 : decode cX2_heat 22 = .ok (.getfield 30, 3) := by decide +kernel
theorem dX2_heat_25 : decode cX2_heat 25 = .ok (.getfield 73, 3) := by decide +kernel
theorem dX2_heat_28 : decode cX2_heat 28 = .ok (.iload_n 2, 1) := by decide +kernel
theorem dX2_heat_29 : decode cX2_heat 29 = .ok (.iaload, 1) := by decide +kernel
theorem dX2_heat_30 : decode cX2_heat 30 = .ok (.iconst 2, 1) := by decide +kernel
theorem dX2_heat_31 : decode cX2_heat 31 = .ok (.if_icmp .ne 16, 3) := by decide +kernel
theorem dX2_heat_34 : decode cX2_heat 34 = .ok (.aload_n 0, 1) := by decide +kernel
theorem dX2_heat_35 : decode cX2_heat 35 = .ok (.getfield 38, 3) := by decide +kernel
theorem dX2_heat_38 : decode cX2_heat 38 = .ok (.iconst 2, 1) := by decide +kernel
theorem dX2_heat_39 : decode cX2_heat 39 = .ok (.irem, 1) := by decide +kernel
theorem dX2_heat_40 : decode cX2_heat 40 = .ok (.ifCond .eq 7, 3) := by decide +kernel
theorem dX2_heat_43 : decode cX2_heat 43 = .ok (.iconst 1, 1) := by decide +kernel
theorem dX2_heat_44 : decode cX2_heat 44 = .ok (.goto 4, 3) := by decide +kernel
theorem dX2_heat_47 : decode cX2_heat 47 = .ok (.iconst 0, 1) := by decide +kernel
theorem dX2_heat_48 : decode cX2_heat 48 = .ok (.istore_n 3, 1) := by decide +kernel
theorem dX2_heat_49 : decode cX2_heat 49 = .ok (.aload_n 0, 1) := by decide +kernel
theorem dX2_heat_50 : decode cX2_heat 50 = .ok (.getfield 9, 3) := by decide +kernel
theorem dX2_heat_53 : decode cX2_heat 53 = .ok (.iload_n 2, 1) := by decide +kernel
theorem dX2_heat_54 : decode cX2_heat 54 = .ok (.iaload, 1) := by decide +kernel
theorem dX2_heat_55 : decode cX2_heat 55 = .ok (.iconst 2, 1) := by decide +kernel
theorem dX2_heat_56 : decode cX2_heat 56 = .ok (.if_icmp .ne 53, 3) := by decide +kernel
theorem dX2_heat_59 : decode cX2_heat 59 = .ok (.iload_n 3, 1) := by decide +kernel
theorem dX2_heat_60 : decode cX2_heat 60 = .ok (.ifCond .ne 49, 3) := by decide +kernel
theorem dX2_heat_63 : decode cX2_heat 63 = .ok (.aload_n 0, 1) := by decide +kernel
theorem dX2_heat_64 : decode cX2_heat 64 = .ok (.getfield 15, 3) := by decide +kernel
theorem dX2_heat_67 : decode cX2_heat 67 = .ok (.iload_n 2, 1) := by decide +kernel
theorem dX2_heat_68 : decode cX2_heat 68 = .ok (.dup2, 1) := by decide +kernel
theorem dX2_heat_69 : decode cX2_heat 69 = .ok (.iaload, 1) := by decide +kernel
theorem dX2_heat_70 : decode cX2_heat 70 = .ok (.iconst 1, 1) := by decide +kernel
theorem dX2_heat_71 : decode cX2_heat 71 = .ok (.iadd, 1) := by decide +kernel
theorem dX2_heat_72 : decode cX2_heat 72 = .ok (.iastore, 1) := by decide +kernel
theorem dX2_heat_73 : decode cX2_heat 73 = .ok (.aload_n 0, 1) := by decide +kernel
theorem dX2_heat_74 : decode cX2_heat 74 = .ok (.getfield 15, 3) := by decide +kernel
theorem dX2_heat_77 : decode cX2_heat 77 = .ok (.iload_n 2, 1) := by decide +kernel
theorem dX2_heat_78 : decode cX2_heat 78 = .ok (.iaload, 1) := by decide +kernel
theorem dX2_heat_79 : decode cX2_heat 79 = .ok (.aload_n 0, 1) := by decide +kernel
theorem dX2_heat_80 : decode cX2_heat 80 = .ok (.getfield 30, 3) := by decide +kernel
theorem dX2_heat_83 : decode cX2_heat 83 = .ok (.getfield 116, 3) := by decide +kernel
theorem dX2_heat_86 : decode cX2_heat 86 = .ok (.if_icmp .le 23, 3) := by decide +kernel
theorem dX2_heat_89 : decode cX2_heat 89 = .ok (.aload_n 0, 1) := by decide +kernel
theorem dX2_heat_90 : decode cX2_heat 90 = .ok (.getfield 9, 3) := by decide +kernel
theorem dX2_heat_93 : decode cX2_heat 93 = .ok (.iload_n 2, 1) := by decide +kernel
theorem dX2_heat_94 : decode cX2_heat 94 = .ok (.iconst 0, 1) := by decide +kernel
theorem dX2_heat_95 : decode cX2_heat 95 = .ok (.iastore, 1) := by decide +kernel
theorem dX2_heat_96 : decode cX2_heat 96 = .ok (.aload_n 0, 1) := by decide +kernel
theorem dX2_heat_97 : decode cX2_heat 97 = .ok (.getfield 18, 3) := by decide +kernel
theorem dX2_heat_100 : decode cX2_heat 100 = .ok (.iload_n 2, 1) := by decide +kernel
theorem dX2_heat_101 : decode cX2_heat 101 = .ok (.dup2, 1) := by decide +kernel
theorem dX2_heat_102 : decode cX2_heat 102 = .ok (.iaload, 1) := by decide +kernel
theorem dX2_heat_103 : decode cX2_heat 103 = .ok (.iconst 1, 1) := by decide +kernel
theorem dX2_heat_104 : decode cX2_heat 104 = .ok (.iadd, 1) := by decide +kernel
theorem dX2_heat_105 : decode cX2_heat 105 = .ok (.iastore, 1) := by decide +kernel
theorem dX2_heat_106 : decode cX2_heat 106 = .ok (.iinc 1 1, 3) := by decide +kernel
theorem dX2_heat_109 : decode cX2_heat 109 = .ok (.iinc 2 1, 3) := by decide +kernel
theorem dX2_heat_112 : decode cX2_heat 112 = .ok (.goto (-108), 3) := by decide +kernel
theorem dX2_heat_115 : decode cX2_heat 115 = .ok (.iload_n 1, 1) := by decide +kernel
theorem dX2_heat_116 : decode cX2_heat 116 = .ok (.ireturn, 1) := by decide +kernel
theorem dX2_work_0 : decode cX2_work 0 = .ok (.iconst 0, 1) := by decide +kernel
theorem dX2_work_1 : decode cX2_work 1 = .ok (.istore_n 1, 1) := by decide +kernel
theorem dX2_work_2 : decode cX2_work 2 = .ok (.iload_n 1, 1) := by decide +kernel
theorem dX2_work_3 : decode cX2_work 3 = .ok (.aload_n 0, 1) := by decide +kernel
theorem dX2_work_4 : decode cX2_work 4 = .ok (.getfield 34, 3) := by decide +kernel
theorem dX2_work_7 : decode cX2_work 7 = .ok (.if_icmp .ge 58, 3) := by decide +kernel
theorem dX2_work_10 : decode cX2_work 10 = .ok (.iload_n 1, 1) := by decide +kernel
theorem dX2_work_11 : decode cX2_work 11 = .ok (.iconst 3, 1) := by decide +kernel
theorem dX2_work_12 : decode cX2_work 12 = .ok (.if_icmp .ge 53, 3) := by decide +kernel
theorem dX2_work_15 : decode cX2_work 15 = .ok (.aload_n 0, 1) := by decide +kernel
theorem dX2_work_16 : decode cX2_work 16 = .ok (.getfield 21, 3) := by decide +kernel
theorem dX2_work_19 : decode cX2_work 19 = .ok (.iload_n 1, 1) := by decide +kernel
theorem dX2_work_20 : decode cX2_work 20 = .ok (.iaload, 1) := by decide +kernel
theorem dX2_work_21 : decode cX2_work 21 = .ok (.iconst 1, 1) := by decide +kernel
theorem dX2_work_22 : decode cX2_work 22 = .ok (.if_icmp .eq 13, 3) := by decide +kernel
theorem dX2_work_25 : decode cX2_work 25 = .ok (.aload_n 0, 1) := by decide +kernel
theorem dX2_work_26 : decode cX2_work 26 = .ok (.getfield 21, 3) := by decide +kernel
theorem dX2_work_29 : decode cX2_work 29 = .ok (.iload_n 1, 1) := by decide +kernel
theorem dX2_work_30 : decode cX2_work 30 = .ok (.iaload, 1) := by decide +kernel
theorem dX2_work_31 : decode cX2_work 31 = .ok (.iconst 2, 1) := by decide +kernel
theorem dX2_work_32 : decode cX2_work 32 = .ok (.if_icmp .ne 27, 3) := by decide +kernel
theorem dX2_work_35 : decode cX2_work 35 = .ok (.aload_n 0, 1) := by decide +kernel
theorem dX2_work_36 : decode cX2_work 36 = .ok (.getfield 24, 3) := by decide +kernel
theorem dX2_work_39 : decode cX2_work 39 = .ok (.iload_n 1, 1) := by decide +kernel
theorem dX2_work_40 : decode cX2_work 40 = .ok (.dup2, 1) := by decide +kernel
theorem dX2_work_41 : decode cX2_work 41 = .ok (.iaload, 1) := by decide +kernel
theorem dX2_work_42 : decode cX2_work 42 = .ok (.iconst 1, 1) := by decide +kernel
theorem dX2_work_43 : decode cX2_work 43 = .ok (.isub, 1) := by decide +kernel
theorem dX2_work_44 : decode cX2_work 44 = .ok (.iastore, 1) := by decide +kernel
theorem dX2_work_45 : decode cX2_work 45 = .ok (.aload_n 0, 1) := by decide +kernel
theorem dX2_work_46 : decode cX2_work 46 = .ok (.getfield 24, 3) := by decide +kernel
theorem dX2_work_49 : decode cX2_work 49 = .ok (.iload_n 1, 1) := by decide +kernel
theorem dX2_work_50 : decode cX2_work 50 = .ok (.iaload, 1) := by decide +kernel
theorem dX2_work_51 : decode cX2_work 51 = .ok (.ifCond .gt 8, 3) := by decide +kernel
theorem dX2_work_54 : decode cX2_work 54 = .ok (.aload_n 0, 1) := by decide +kernel
theorem dX2_work_55 : decode cX2_work 55 = .ok (.iload_n 1, 1) := by decide +kernel
theorem dX2_work_56 : decode cX2_work 56 = .ok (.invokevirtual 119, 3) := by decide +kernel
theorem dX2_work_59 : decode cX2_work 59 = .ok (.iinc 1 1, 3) := by decide +kernel
theorem dX2_work_62 : decode cX2_work 62 = .ok (.goto (-60), 3) := by decide +kernel
theorem dX2_work_65 : decode cX2_work 65 = .ok (.return_, 1) := by decide +kernel
theorem dX2_finish_0 : decode cX2_finish 0 = .ok (.aload_n 0, 1) := by decide +kernel
theorem dX2_finish_1 : decode cX2_finish 1 = .ok (.iload_n 1, 1) := by decide +kernel
theorem dX2_finish_2 : decode cX2_finish 2 = .ok (.invokevirtual 123, 3) := by decide +kernel
theorem dX2_finish_5 : decode cX2_finish 5 = .ok (.ifCond .ne 4, 3) := by decide +kernel
theorem dX2_finish_8 : decode cX2_finish 8 = .ok (.return_, 1) := by decide +kernel
theorem dX2_finish_9 : decode cX2_finish 9 = .ok (.aload_n 0, 1) := by decide +kernel
theorem dX2_finish_10 : decode cX2_finish 10 = .ok (.getfield 21, 3) := by decide +kernel
theorem dX2_finish_13 : decode cX2_finish 13 = .ok (.iload_n 1, 1) := by decide +kernel
theorem dX2_finish_14 : decode cX2_finish 14 = .ok (.iaload, 1) := by decide +kernel
theorem dX2_finish_15 : decode cX2_finish 15 = .ok (.iconst 2, 1) := by decide +kernel
theorem dX2_finish_16 : decode cX2_finish 16 = .ok (.if_icmp .ne 11, 3) := by decide +kernel
theorem dX2_finish_19 : decode cX2_finish 19 = .ok (.aload_n 0, 1) := by decide +kernel
theorem dX2_finish_20 : decode cX2_finish 20 = .ok (.iconst 1, 1) := by decide +kernel
theorem dX2_finish_21 : decode cX2_finish 21 = .ok (.putfield 41, 3) := by decide +kernel
theorem dX2_finish_24 : decode cX2_finish 24 = .ok (.goto 43, 3) := by decide +kernel
theorem dX2_finish_27 : decode cX2_finish 27 = .ok (.aload_n 0, 1) := by decide +kernel
theorem dX2_finish_28 : decode cX2_finish 28 = .ok (.getfield 30, 3) := by decide +kernel
theorem dX2_finish_31 : decode cX2_finish 31 = .ok (.aload_n 0, 1) := by decide +kernel
theorem dX2_finish_32 : decode cX2_finish 32 = .ok (.getfield 27, 3) := by decide +kernel
theorem dX2_finish_35 : decode cX2_finish 35 = .ok (.iload_n 1, 1) := by decide +kernel
theorem dX2_finish_36 : decode cX2_finish 36 = .ok (.iaload, 1) := by decide +kernel
theorem dX2_finish_37 : decode cX2_finish 37 = .ok (.invokevirtual 70, 3) := by decide +kernel
theorem dX2_finish_40 : decode cX2_finish 40 = .ok (.ifCond .eq 27, 3) := by decide +kernel
theorem dX2_finish_43 : decode cX2_finish 43 = .ok (.aload_n 0, 1) := by decide +kernel
theorem dX2_finish_44 : decode cX2_finish 44 = .ok (.getfield 9, 3) := by decide +kernel
theorem dX2_finish_47 : decode cX2_finish 47 = .ok (.aload_n 0, 1) := by decide +kernel
theorem dX2_finish_48 : decode cX2_finish 48 = .ok (.getfield 27, 3) := by decide +kernel
theorem dX2_finish_51 : decode cX2_finish 51 = .ok (.iload_n 1, 1) := by decide +kernel
theorem dX2_finish_52 : decode cX2_finish 52 = .ok (.iaload, 1) := by decide +kernel
theorem dX2_finish_53 : decode cX2_finish 53 = .ok (.iconst 2, 1) := by decide +kernel
theorem dX2_finish_54 : decode cX2_finish 54 = .ok (.iastore, 1) := by decide +kernel
theorem dX2_finish_55 : decode cX2_finish 55 = .ok (.aload_n 0, 1) := by decide +kernel
theorem dX2_finish_56 : decode cX2_finish 56 = .ok (.getfield 15, 3) := by decide +kernel
theorem dX2_finish_59 : decode cX2_finish 59 = .ok (.aload_n 0, 1) := by decide +kernel
theorem dX2_finish_60 : decode cX2_finish 60 = .ok (.getfield 27, 3) := by decide +kernel
theorem dX2_finish_63 : decode cX2_finish 63 = .ok (.iload_n 1, 1) := by decide +kernel
theorem dX2_finish_64 : decode cX2_finish 64 = .ok (.iaload, 1) := by decide +kernel
theorem dX2_finish_65 : decode cX2_finish 65 = .ok (.iconst 0, 1) := by decide +kernel
theorem dX2_finish_66 : decode cX2_finish 66 = .ok (.iastore, 1) := by decide +kernel
theorem dX2_finish_67 : decode cX2_finish 67 = .ok (.aload_n 0, 1) := by decide +kernel
theorem dX2_finish_68 : decode cX2_finish 68 = .ok (.getfield 21, 3) := by decide +kernel
theorem dX2_finish_71 : decode cX2_finish 71 = .ok (.iload_n 1, 1) := by decide +kernel
theorem dX2_finish_72 : decode cX2_finish 72 = .ok (.iconst 0, 1) := by decide +kernel
theorem dX2_finish_73 : decode cX2_finish 73 = .ok (.iastore, 1) := by decide +kernel
theorem dX2_finish_74 : decode cX2_finish 74 = .ok (.aload_n 0, 1) := by decide +kernel
theorem dX2_finish_75 : decode cX2_finish 75 = .ok (.getfield 27, 3) := by decide +kernel
theorem dX2_finish_78 : decode cX2_finish 78 = .ok (.iload_n 1, 1) := by decide +kernel
theorem dX2_finish_79 : decode cX2_finish 79 = .ok (.bipush (-4), 2) := by decide +kernel
theorem dX2_finish_81 : decode cX2_finish 81 = .ok (.iastore, 1) := by decide +kernel
theorem dX2_finish_82 : decode cX2_finish 82 = .ok (.return_, 1) := by decide +kernel
theorem dX3_init_0 : decode cX3_init 0 = .ok (.aload_n 0, 1) := by decide +kernel
theorem dX3_init_1 : decode cX3_init 1 = .ok (.invokespecial 1, 3) := by decide +kernel
theorem dX3_init_4 : decode cX3_init 4 = .ok (.aload_n 0, 1) := by decide +kernel
theorem dX3_init_5 : decode cX3_init 5 = .ok (.iconst 1, 1) := by decide +kernel
theorem dX3_init_6 : decode cX3_init 6 = .ok (.iload_n 1, 1) := by decide +kernel
theorem dX3_init_7 : decode cX3_init 7 = .ok (.invokestatic 7, 3) := by decide +kernel
theorem dX3_init_10 : decode cX3_init 10 = .ok (.anewarray 13, 3) := by decide +kernel
theorem dX3_init_13 : decode cX3_init 13 = .ok (.putfield 15, 3) := by decide +kernel
theorem dX3_init_16 : decode cX3_init 16 = .ok (.iconst 0, 1) := by decide +kernel
theorem dX3_init_17 : decode cX3_init 17 = .ok (.istore_n 3, 1) := by decide +kernel
theorem dX3_init_18 : decode cX3_init 18 = .ok (.iload_n 3, 1) := by decide +kernel
theorem dX3_init_19 : decode cX3_init 19 = .ok (.aload_n 0, 1) := by decide +kernel
theorem dX3_init_20 : decode cX3_init 20 = .ok (.getfield 15, 3) := by decide +kernel
theorem dX3_init_23 : decode cX3_init 23 = .ok (.arraylength, 1) := by decide +kernel
theorem dX3_init_24 : decode cX3_init 24 = .ok (.if_icmp .ge 23, 3) := by decide +kernel
theorem dX3_init_27 : decode cX3_init 27 = .ok (.aload_n 0, 1) := by decide +kernel
theorem dX3_init_28 : decode cX3_init 28 = .ok (.getfield 15, 3) := by decide +kernel
theorem dX3_init_31 : decode cX3_init 31 = .ok (.iload_n 3, 1) := by decide +kernel
theorem dX3_init_32 : decode cX3_init 32 = .ok (.new 13, 3) := by decide +kernel
theorem dX3_init_35 : decode cX3_init 35 = .ok (.dup, 1) := by decide +kernel
theorem dX3_init_36 : decode cX3_init 36 = .ok (.aload_n 2, 1) := by decide +kernel
theorem dX3_init_37 : decode cX3_init 37 = .ok (.invokespecial 21, 3) := by decide +kernel
theorem dX3_init_40 : decode cX3_init 40 = .ok (.aastore, 1) := by decide +kernel
theorem dX3_init_41 : decode cX3_init 41 = .ok (.iinc 3 1, 3) := by decide +kernel
theorem dX3_init_44 : decode cX3_init 44 = .ok (.goto (-26), 3) := by decide +kernel
theorem dX3_init_47 : decode cX3_init 47 = .ok (.return_, 1) := by decide +kernel
theorem dX3_clear_0 : decode cX3_clear 0 = .ok (.aload_n 0, 1) := by decide +kernel
theorem dX3_clear_1 : decode cX3_clear 1 = .ok (.iconst 0, 1) := by decide +kernel
theorem dX3_clear_2 : decode cX3_clear 2 = .ok (.putfield 24, 3) := by decide +kernel
theorem dX3_clear_5 : decode cX3_clear 5 = .ok (.return_, 1) := by decide +kernel
theorem dX3_push_0 : decode cX3_push 0 = .ok (.aload_n 0, 1) := by decide +kernel
theorem dX3_push_1 : decode cX3_push 1 = .ok (.aload_n 0, 1) := by decide +kernel
theorem dX3_push_2 : decode cX3_push 2 = .ok (.getfield 28, 3) := by decide +kernel
theorem dX3_push_5 : decode cX3_push 5 = .ok (.iconst 1, 1) := by decide +kernel
theorem dX3_push_6 : decode cX3_push 6 = .ok (.iadd, 1) := by decide +kernel
theorem dX3_push_7 : decode cX3_push 7 = .ok (.aload_n 0, 1) := by decide +kernel
theorem dX3_push_8 : decode cX3_push 8 = .ok (.getfield 15, 3) := by decide +kernel
theorem dX3_push_11 : decode cX3_push 11 = .ok (.arraylength, 1) := by decide +kernel
theorem dX3_push_12 : decode cX3_push 12 = .ok (.if_icmp .ge 12, 3) := by decide +kernel
theorem dX3_push_15 : decode cX3_push 15 = .ok (.aload_n 0, 1) := by decide +kernel
theorem dX3_push_16 : decode cX3_push 16 = .ok (.getfield 28, 3) := by decide +kernel
theorem dX3_push_19 : decode cX3_push 19 = .ok (.iconst 1, 1) := by decide +kernel
theorem dX3_push_20 : decode cX3_push 20 = .ok (.iadd, 1) := by decide +kernel
theorem dX3_push_21 : decode cX3_push 21 = .ok (.goto 4, 3) := by decide +kernel
theorem dX3_push_24 : decode cX3_push 24 = .ok (.iconst 0, 1) := by decide +kernel
theorem dX3_push_25 : decode cX3_push 25 = .ok (.putfield 28, 3) := by decide +kernel
theorem dX3_push_28 : decode cX3_push 28 = .ok (.aload_n 0, 1) := by decide +kernel
theorem dX3_push_29 : decode cX3_push 29 = .ok (.getfield 15, 3) := by decide +kernel
theorem dX3_push_32 : decode cX3_push 32 = .ok (.aload_n 0, 1) := by decide +kernel
theorem dX3_push_33 : decode cX3_push 33 = .ok (.getfield 28, 3) := by decide +kernel
theorem dX3_push_36 : decode cX3_push 36 = .ok (.aaload, 1) := by decide +kernel
theorem dX3_push_37 : decode cX3_push 37 = .ok (.aload_n 1, 1) := by decide +kernel
theorem dX3_push_38 : decode cX3_push 38 = .ok (.invokevirtual 31, 3) := by decide +kernel
theorem dX3_push_41 : decode cX3_push 41 = .ok (.aload_n 0, 1) := by decide +kernel
theorem dX3_push_42 : decode cX3_push 42 = .ok (.aload_n 0, 1) := by decide +kernel
theorem dX3_push_43 : decode cX3_push 43 = .ok (.getfield 24, 3) := by decide +kernel
theorem dX3_push_46 : decode cX3_push 46 = .ok (.iconst 1, 1) := by decide +kernel
theorem dX3_push_47 : decode cX3_push 47 = .ok (.iadd, 1) := by decide +kernel
theorem dX3_push_48 : decode cX3_push 48 = .ok (.aload_n 0, 1) := by decide +kernel
theorem dX3_push_49 : decode cX3_push 49 = .ok (.getfield 15, 3) := by decide +kernel
theorem dX3_push_52 : decode cX3_push 52 = .ok (.arraylength, 1) := by decide +kernel
theorem dX3_push_53 : decode cX3_push 53 = .ok (.invokestatic 35, 3) := by decide +kernel
theorem dX3_push_56 : decode cX3_push 56 = .ok (.putfield 24, 3) := by decide +kernel
theorem dX3_push_59 : decode cX3_push 59 = .ok (.return_, 1) := by decide +kernel
theorem dX3_popInto_0 : decode cX3_popInto 0 = .ok (.aload_n 0, 1) := by decide +kernel
theorem dX3_popInto_1 : decode cX3_popInto 1 = .ok (.getfield 24, 3) := by decide +kernel
theorem dX3_popInto_4 : decode cX3_popInto 4 = .ok (.ifCond .le 53, 3) := by decide +kernel
theorem dX3_popInto_7 : decode cX3_popInto 7 = .ok (.aload_n 1, 1) := by decide +kernel
theorem dX3_popInto_8 : decode cX3_popInto 8 = .ok (.aload_n 0, 1) := by decide +kernel
theorem dX3_popInto_9 : decode cX3_popInto 9 = .ok (.getfield 15, 3) := by decide +kernel
theorem dX3_popInto_12 : decode cX3_popInto 12 = .ok (.aload_n 0, 1) := by decide +kernel
theorem dX3_popInto_13 : decode cX3_popInto 13 = .ok (.getfield 28, 3) := by decide +kernel
theorem dX3_popInto_16 : decode cX3_popInto 16 = .ok (.aaload, 1) := by decide +kernel
theorem dX3_popInto_17 : decode cX3_popInto 17 = .ok (.invokevirtual 31, 3) := by decide +kernel
theorem dX3_popInto_20 : decode cX3_popInto 20 = .ok (.aload_n 0, 1) := by decide +kernel
theorem dX3_popInto_21 : decode cX3_popInto 21 = .ok (.aload_n 0, 1) := by decide +kernel
theorem dX3_popInto_22 : decode cX3_popInto 22 = .ok (.getfield 28, 3) := by decide +kernel
theorem dX3_popInto_25 : decode cX3_popInto 25 = .ok (.ifCond .le 12, 3) := by decide +kernel
theorem dX3_popInto_28 : decode cX3_popInto 28 = .ok (.aload_n 0, 1) := by decide +kernel
theorem dX3_popInto_29 : decode cX3_popInto 29 = .ok (.getfield 28, 3) := by decide +kernel
theorem dX3_popInto_32 : decode cX3_popInto 32 = .ok (.iconst 1, 1) := by decide +kernel
theorem dX3_popInto_33 : decode cX3_popInto 33 = .ok (.isub, 1) := by decide +kernel
theorem dX3_popInto_34 : decode cX3_popInto 34 = .ok (.goto 10, 3) := by decide +kernel
theorem dX3_popInto_37 : decode cX3_popInto 37 = .ok (.aload_n 0, 1) := by decide +kernel
theorem dX3_popInto_38 : decode cX3_popInto 38 = .ok (.getfield 15, 3) := by decide +kernel
theorem dX3_popInto_41 : decode cX3_popInto 41 = .ok (.arraylength, 1) := by decide +kernel
theorem dX3_popInto_42 : decode cX3_popInto 42 = .ok (.iconst 1, 1) := by decide +kernel
theorem dX3_popInto_43 : decode cX3_popInto 43 = .ok (.isub, 1) := by decide +kernel
theorem dX3_popInto_44 : decode cX3_popInto 44 = .ok (.putfield 28, 3) := by decide +kernel
theorem dX3_popInto_47 : decode cX3_popInto 47 = .ok (.aload_n 0, 1) := by decide +kernel
theorem dX3_popInto_48 : decode cX3_popInto 48 = .ok (.dup, 1) := by decide +kernel
theorem dX3_popInto_49 : decode cX3_popInto 49 = .ok (.getfield 24, 3) := by decide +kernel
theorem dX3_popInto_52 : decode cX3_popInto 52 = .ok (.iconst 1, 1) := by decide +kernel
theorem dX3_popInto_53 : decode cX3_popInto 53 = .ok (.isub, 1) := by decide +kernel
theorem dX3_popInto_54 : decode cX3_popInto 54 = .ok (.putfield 24, 3) := by decide +kernel
theorem dX3_popInto_57 : decode cX3_popInto 57 = .ok (.return_, 1) := by decide +kernel
theorem dX4_init_0 : decode cX4_init 0 = .ok (.aload_n 0, 1) := by decide +kernel
theorem dX4_init_1 : decode cX4_init 1 = .ok (.invokespecial 3, 3) := by decide +kernel
theorem dX4_init_4 : decode cX4_init 4 = .ok (.aload_n 0, 1) := by decide +kernel
theorem dX4_init_5 : decode cX4_init 5 = .ok (.bipush 6, 2) := by decide +kernel
theorem dX4_init_7 : decode cX4_init 7 = .ok (.newarray .int, 2) := by decide +kernel
theorem dX4_init_9 : decode cX4_init 9 = .ok (.putfield 9, 3) := by decide +kernel
theorem dX4_init_12 : decode cX4_init 12 = .ok (.aload_n 0, 1) := by decide +kernel
theorem dX4_init_13 : decode cX4_init 13 = .ok (.bipush 6, 2) := by decide +kernel
theorem dX4_init_15 : decode cX4_init 15 = .ok (.newarray .int, 2) := by decide +kernel
theorem dX4_init_17 : decode cX4_init 17 = .ok (.putfield 15, 3) := by decide +kernel
theorem dX4_init_20 : decode cX4_init 20 = .ok (.return_, 1) := by decide +kernel
theorem dX4_clear_0 : decode cX4_clear 0 = .ok (.aload_n 0, 1) := by decide +kernel
theorem dX4_clear_1 : decode cX4_clear 1 = .ok (.iconst 0, 1) := by decide +kernel
theorem dX4_clear_2 : decode cX4_clear 2 = .ok (.putfield 18, 3) := by decide +kernel
theorem dX4_clear_5 : decode cX4_clear 5 = .ok (.aload_n 0, 1) := by decide +kernel
theorem dX4_clear_6 : decode cX4_clear 6 = .ok (.iconst 2, 1) := by decide +kernel
theorem dX4_clear_7 : decode cX4_clear 7 = .ok (.putfield 22, 3) := by decide +kernel
theorem dX4_clear_10 : decode cX4_clear 10 = .ok (.aload_n 0, 1) := by decide +kernel
theorem dX4_clear_11 : decode cX4_clear 11 = .ok (.bipush 9, 2) := by decide +kernel
theorem dX4_clear_13 : decode cX4_clear 13 = .ok (.putfield 25, 3) := by decide +kernel
theorem dX4_clear_16 : decode cX4_clear 16 = .ok (.aload_n 0, 1) := by decide +kernel
theorem dX4_clear_17 : decode cX4_clear 17 = .ok (.iconst 3, 1) := by decide +kernel
theorem dX4_clear_18 : decode cX4_clear 18 = .ok (.putfield 28, 3) := by decide +kernel
theorem dX4_clear_21 : decode cX4_clear 21 = .ok (.aload_n 0, 1) := by decide +kernel
theorem dX4_clear_22 : decode cX4_clear 22 = .ok (.bipush 60, 2) := by decide +kernel
theorem dX4_clear_24 : decode cX4_clear 24 = .ok (.putfield 31, 3) := by decide +kernel
theorem dX4_clear_27 : decode cX4_clear 27 = .ok (.return_, 1) := by decide +kernel
theorem dX4_copyFrom_0 : decode cX4_copyFrom 0 = .ok (.aload_n 1, 1) := by decide +kernel
theorem dX4_copyFrom_1 : decode cX4_copyFrom 1 = .ok (.getfield 9, 3) := by decide +kernel
theorem dX4_copyFrom_4 : decode cX4_copyFrom 4 = .ok (.iconst 0, 1) := by decide +kernel
theorem dX4_copyFrom_5 : decode cX4_copyFrom 5 = .ok (.aload_n 0, 1) := by decide +kernel
theorem dX4_copyFrom_6 : decode cX4_copyFrom 6 = .ok (.getfield 9, 3) := by decide +kernel
theorem dX4_copyFrom_9 : decode cX4_copyFrom 9 = .ok (.iconst 0, 1) := by decide +kernel
theorem dX4_copyFrom_10 : decode cX4_copyFrom 10 = .ok (.bipush 6, 2) := by decide +kernel
theorem dX4_copyFrom_12 : decode cX4_copyFrom 12 = .ok (.invokestatic 34, 3) := by decide +kernel
theorem dX4_copyFrom_15 : decode cX4_copyFrom 15 = .ok (.aload_n 1, 1) := by decide +kernel
theorem dX4_copyFrom_16 : decode cX4_copyFrom 16 = .ok (.getfield 15, 3) := by decide +kernel
theorem dX4_copyFrom_19 : decode cX4_copyFrom 19 = .ok (.iconst 0, 1) := by decide +kernel
theorem dX4_copyFrom_20 : decode cX4_copyFrom 20 = .ok (.aload_n 0, 1) := by decide +kernel
theorem dX4_copyFrom_21 : decode cX4_copyFrom 21 = .ok (.getfield 15, 3) := by decide +kernel
theorem dX4_copyFrom_24 : decode cX4_copyFrom 24 = .ok (.iconst 0, 1) := by decide +kernel
theorem dX4_copyFrom_25 : decode cX4_copyFrom 25 = .ok (.bipush 6, 2) := by decide +kernel
theorem dX4_copyFrom_27 : decode cX4_copyFrom 27 = .ok (.invokestatic 34, 3) := by decide +kernel
theorem dX4_copyFrom_30 : decode cX4_copyFrom 30 = .ok (.aload_n 0, 1) := by decide +kernel
theorem dX4_copyFrom_31 : decode cX4_copyFrom 31 = .ok (.aload_n 1, 1) := by decide +kernel
theorem dX4_copyFrom_32 : decode cX4_copyFrom 32 = .ok (.getfield 18, 3) := by decide +kernel
theorem dX4_copyFrom_35 : decode cX4_copyFrom 35 = .ok (.putfield 18, 3) := by decide +kernel
theorem dX4_copyFrom_38 : decode cX4_copyFrom 38 = .ok (.aload_n 0, 1) := by decide +kernel
theorem dX4_copyFrom_39 : decode cX4_copyFrom 39 = .ok (.aload_n 1, 1) := by decide +kernel
theorem dX4_copyFrom_40 : decode cX4_copyFrom 40 = .ok (.getfield 22, 3) := by decide +kernel
theorem dX4_copyFrom_43 : decode cX4_copyFrom 43 = .ok (.putfield 22, 3) := by decide +kernel
theorem dX4_copyFrom_46 : decode cX4_copyFrom 46 = .ok (.aload_n 0, 1) := by decide +kernel
theorem dX4_copyFrom_47 : decode cX4_copyFrom 47 = .ok (.aload_n 1, 1) := by decide +kernel
theorem dX4_copyFrom_48 : decode cX4_copyFrom 48 = .ok (.getfield 25, 3) := by decide +kernel
theorem dX4_copyFrom_51 : decode cX4_copyFrom 51 = .ok (.putfield 25, 3) := by decide +kernel
theorem dX4_copyFrom_54 : decode cX4_copyFrom 54 = .ok (.aload_n 0, 1) := by decide +kernel
theorem dX4_copyFrom_55 : decode cX4_copyFrom 55 = .ok (.aload_n 1, 1) := by decide +kernel
theorem dX4_copyFrom_56 : decode cX4_copyFrom 56 = .ok (.getfield 28, 3) := by decide +kernel
theorem dX4_copyFrom_59 : decode cX4_copyFrom 59 = .ok (.putfield 28, 3) := by decide +kernel
theorem dX4_copyFrom_62 : decode cX4_copyFrom 62 = .ok (.aload_n 0, 1) := by decide +kernel
theorem dX4_copyFrom_63 : decode cX4_copyFrom 63 = .ok (.aload_n 1, 1) := by decide +kernel
theorem dX4_copyFrom_64 : decode cX4_copyFrom 64 = .ok (.getfield 31, 3) := by decide +kernel
theorem dX4_copyFrom_67 : decode cX4_copyFrom 67 = .ok (.putfield 31, 3) := by decide +kernel
theorem dX4_copyFrom_70 : decode cX4_copyFrom 70 = .ok (.return_, 1) := by decide +kernel
theorem dX4_hasChild_0 : decode cX4_hasChild 0 = .ok (.iload_n 1, 1) := by decide +kernel
theorem dX4_hasChild_1 : decode cX4_hasChild 1 = .ok (.ifCond .lt 21, 3) := by decide +kernel
theorem dX4_hasChild_4 : decode cX4_hasChild 4 = .ok (.iload_n 1, 1) := by decide +kernel
theorem dX4_hasChild_5 : decode cX4_hasChild 5 = .ok (.aload_n 0, 1) := by decide +kernel
theorem dX4_hasChild_6 : decode cX4_hasChild 6 = .ok (.getfield 18, 3) := by decide +kernel
theorem dX4_hasChild_9 : decode cX4_hasChild 9 = .ok (.if_icmp .ge 13, 3) := by decide +kernel
theorem dX4_hasChild_12 : decode cX4_hasChild 12 = .ok (.iload_n 1, 1) := by decide +kernel
theorem dX4_hasChild_13 : decode cX4_hasChild 13 = .ok (.bipush 6, 2) := by decide +kernel
theorem dX4_hasChild_15 : decode cX4_hasChild 15 = .ok (.if_icmp .ge 7, 3) := by decide +kernel
theorem dX4_hasChild_18 : decode cX4_hasChild 18 = .ok (.iconst 1, 1) := by decide +kernel
theorem dX4_hasChild_19 : decode cX4_hasChild 19 = .ok (.goto 4, 3) := by decide +kernel
theorem dX4_hasChild_22 : decode cX4_hasChild 22 = .ok (.iconst 0, 1) := by decide +kernel
theorem dX4_hasChild_23 : decode cX4_hasChild 23 = .ok (.ireturn, 1) := by decide +kernel
theorem dX4_tell_0 : decode cX4_tell 0 = .ok (.iload_n 1, 1) := by decide +kernel
theorem dX4_tell_1 : decode cX4_tell 1 = .ok (.bipush 99, 2) := by decide +kernel
theorem dX4_tell_3 : decode cX4_tell 3 = .ok (.if_icmp .ne 10, 3) := by decide +kernel
theorem dX4_tell_6 : decode cX4_tell 6 = .ok (.aload_n 0, 1) := by decide +kernel
theorem dX4_tell_7 : decode cX4_tell 7 = .ok (.iload_n 2, 1) := by decide +kernel
theorem dX4_tell_8 : decode cX4_tell 8 = .ok (.iload_n 3, 1) := by decide +kernel
theorem dX4_tell_9 : decode cX4_tell 9 = .ok (.invokevirtual 40, 3) := by decide +kernel
theorem dX4_tell_12 : decode cX4_tell 12 = .ok (.ireturn, 1) := by decide +kernel
theorem dX4_tell_13 : decode cX4_tell 13 = .ok (.iload_n 3, 1) := by decide +kernel
theorem dX4_tell_14 : decode cX4_tell 14 = .ok (.ifCond .ge 16, 3) := by decide +kernel
theorem dX4_tell_17 : decode cX4_tell 17 = .ok (.aload_n 0, 1) := by decide +kernel
theorem dX4_tell_18 : decode cX4_tell 18 = .ok (.iload_n 1, 1) := by decide +kernel
theorem dX4_tell_19 : decode cX4_tell 19 = .ok (.iload_n 2, 1) := by decide +kernel
theorem dX4_tell_20 : decode cX4_tell 20 = .ok (.invokevirtual 44, 3) := by decide +kernel
theorem dX4_tell_23 : decode cX4_tell 23 = .ok (.ifCond .eq 7, 3) := by decide +kernel
theorem dX4_tell_26 : decode cX4_tell 26 = .ok (.iconst 1, 1) := by decide +kernel
theorem dX4_tell_27 : decode cX4_tell 27 = .ok (.goto 4, 3) := by decide +kernel
theorem dX4_tell_30 : decode cX4_tell 30 = .ok (.iconst 0, 1) := by decide +kernel
theorem dX4_tell_31 : decode cX4_tell 31 = .ok (.ireturn, 1) := by decide +kernel
theorem dX4_tellChild_0 : decode cX4_tellChild 0 = .ok (.aload_n 0, 1) := by decide +kernel
theorem dX4_tellChild_1 : decode cX4_tellChild 1 = .ok (.getfield 18, 3) := by decide +kernel
theorem dX4_tellChild_4 : decode cX4_tellChild 4 = .ok (.bipush 6, 2) := by decide +kernel
theorem dX4_tellChild_6 : decode cX4_tellChild 6 = .ok (.if_icmp .ge 12, 3) := by decide +kernel
theorem dX4_tellChild_9 : decode cX4_tellChild 9 = .ok (.iload_n 1, 1) := by decide +kernel
theorem dX4_tellChild_10 : decode cX4_tellChild 10 = .ok (.ifCond .lt 8, 3) := by decide +kernel
theorem dX4_tellChild_13 : decode cX4_tellChild 13 = .ok (.iload_n 1, 1) := by decide +kernel
theorem dX4_tellChild_14 : decode cX4_tellChild 14 = .ok (.iconst 3, 1) := by decide +kernel
theorem dX4_tellChild_15 : decode cX4_tellChild 15 = .ok (.if_icmp .le 5, 3) := by decide +kernel
theorem dX4_tellChild_18 : decode cX4_tellChild 18 = .ok (.iconst 0, 1) := by decide +kernel
theorem dX4_tellChild_19 : decode cX4_tellChild 19 = .ok (.ireturn, 1) := by decide +kernel
theorem dX4_tellChild_20 : decode cX4_tellChild 20 = .ok (.iload_n 2, 1) := by decide +kernel
theorem dX4_tellChild_21 : decode cX4_tellChild 21 = .ok (.iconst 1, 1) := by decide +kernel
theorem dX4_tellChild_22 : decode cX4_tellChild 22 = .ok (.if_icmp .lt 9, 3) := by decide +kernel
theorem dX4_tellChild_25 : decode cX4_tellChild 25 = .ok (.iload_n 2, 1) := by decide +kernel
theorem dX4_tellChild_26 : decode cX4_tellChild 26 = .ok (.bipush 12, 2) := by decide +kernel
theorem dX4_tellChild_28 : decode cX4_tellChild 28 = .ok (.if_icmp .le 5, 3) := by decide +kernel
theorem dX4_tellChild_31 : decode cX4_tellChild 31 = .ok (.iconst 0, 1) := by decide +kernel
theorem dX4_tellChild_32 : decode cX4_tellChild 32 = .ok (.ireturn, 1) := by decide +kernel
theorem dX4_tellChild_33 : decode cX4_tellChild 33 = .ok (.aload_n 0, 1) := by decide +kernel
theorem dX4_tellChild_34 : decode cX4_tellChild 34 = .ok (.getfield 9, 3) := by decide +kernel
theorem dX4_tellChild_37 : decode cX4_tellChild 37 = .ok (.aload_n 0, 1) := by decide +kernel
theorem dX4_tellChild_38 : decode cX4_tellChild 38 = .ok (.getfield 18, 3) := by decide +kernel
theorem dX4_tellChild_41 : decode cX4_tellChild 41 = .ok (.iload_n 1, 1) := by decide +kernel
theorem dX4_tellChild_42 : decode cX4_tellChild 42 = .ok (.iastore, 1) := by decide +kernel
theorem dX4_tellChild_43 : decode cX4_tellChild 43 = .ok (.aload_n 0, 1) := by decide +kernel
theorem dX4_tellChild_44 : decode cX4_tellChild 44 = .ok (.getfield 15, 3) := by decide +kernel
theorem dX4_tellChild_47 : decode cX4_tellChild 47 = .ok (.aload_n 0, 1) := by decide +kernel
theorem dX4_tellChild_48 : decode cX4_tellChild 48 = .ok (.getfield 18, 3) := by decide +kernel
theorem dX4_tellChild_51 : decode cX4_tellChild 51 = .ok (.iload_n 2, 1) := by decide +kernel
theorem dX4_tellChild_52 : decode cX4_tellChild 52 = .ok (.iastore, 1) := by decide +kernel
theorem dX4_tellChild_53 : decode cX4_tellChild 53 = .ok (.aload_n 0, 1) := by decide +kernel
theorem dX4_tellChild_54 : decode cX4_tellChild 54 = .ok (.dup, 1) := by decide +kernel
theorem dX4_tellChild_55 : decode cX4_tellChild 55 = .ok (.getfield 18, 3) := by decide +kernel
theorem dX4_tellChild_58 : decode cX4_tellChild 58 = .ok (.iconst 1, 1) := by decide +kernel
theorem dX4_tellChild_59 : decode cX4_tellChild 59 = .ok (.iadd, 1) := by decide +kernel
theorem dX4_tellChild_60 : decode cX4_tellChild 60 = .ok (.putfield 18, 3) := by decide +kernel
theorem dX4_tellChild_63 : decode cX4_tellChild 63 = .ok (.iconst 1, 1) := by decide +kernel
theorem dX4_tellChild_64 : decode cX4_tellChild 64 = .ok (.ireturn, 1) := by decide +kernel
theorem dX4_tellNumber_0 : decode cX4_tellNumber 0 = .ok (.iload_n 2, 1) := by decide +kernel
theorem dX4_tellNumber_1 : decode cX4_tellNumber 1 = .ok (.iconst 1, 1) := by decide +kernel
theorem dX4_tellNumber_2 : decode cX4_tellNumber 2 = .ok (.if_icmp .lt 11, 3) := by decide +kernel
theorem dX4_tellNumber_5 : decode cX4_tellNumber 5 = .ok (.iload_n 2, 1) := by decide +kernel
theorem dX4_tellNumber_6 : decode cX4_tellNumber 6 = .ok (.iload_n 1, 1) := by decide +kernel
theorem dX4_tellNumber_7 : decode cX4_tellNumber 7 = .ok (.invokestatic 48, 3) := by decide +kernel
theorem dX4_tellNumber_10 : decode cX4_tellNumber 10 = .ok (.if_icmp .le 5, 3) := by decide +kernel
theorem dX4_tellNumber_13 : decode cX4_tellNumber 13 = .ok (.iconst 0, 1) := by decide +kernel
theorem dX4_tellNumber_14 : decode cX4_tellNumber 14 = .ok (.ireturn, 1) := by decide +kernel
theorem dX4_tellNumber_15 : decode cX4_tellNumber 15 = .ok (.iload_n 1, 1) := by decide +kernel
theorem dX4_tellNumber_16 : decode cX4_tellNumber 16 = .ok (.lookupswitch 60 #[(103, 52), (104, 44), (119, 36)], 36) := by decide +kernel
theorem dX4_tellNumber_52 : decode cX4_tellNumber 52 = .ok (.aload_n 0, 1) := by decide +kernel
theorem dX4_tellNumber_53 : decode cX4_tellNumber 53 = .ok (.iload_n 2, 1) := by decide +kernel
theorem dX4_tellNumber_54 : decode cX4_tellNumber 54 = .ok (.putfield 22, 3) := by decide +kernel
theorem dX4_tellNumber_57 : decode cX4_tellNumber 57 = .ok (.goto 24, 3) := by decide +kernel
theorem dX4_tellNumber_60 : decode cX4_tellNumber 60 = .ok (.aload_n 0, 1) := by decide +kernel
theorem dX4_tellNumber_61 : decode cX4_tellNumber 61 = .ok (.iload_n 2, 1) := by decide +kernel
theorem dX4_tellNumber_62 : decode cX4_tellNumber 62 = .ok (.putfield 25, 3) := by decide +kernel
theorem dX4_tellNumber_65 : decode cX4_tellNumber 65 = .ok (.goto 16, 3) := by decide +kernel
theorem dX4_tellNumber_68 : decode cX4_tellNumber 68 = .ok (.aload_n 0, 1) := by decide +kernel
theorem dX4_tellNumber_69 : decode cX4_tellNumber 69 = .ok (.iload_n 2, 1) := by decide +kernel
theorem dX4_tellNumber_70 : decode cX4_tellNumber 70 = .ok (.putfield 28, 3) := by decide +kernel
theorem dX4_tellNumber_73 : decode cX4_tellNumber 73 = .ok (.goto 8, 3) := by decide +kernel
theorem dX4_tellNumber_76 : decode cX4_tellNumber 76 = .ok (.aload_n 0, 1) := by decide +kernel
theorem dX4_tellNumber_77 : decode cX4_tellNumber 77 = .ok (.iload_n 2, 1) := by decide +kernel
theorem dX4_tellNumber_78 : decode cX4_tellNumber 78 = .ok (.putfield 31, 3) := by decide +kernel
theorem dX4_tellNumber_81 : decode cX4_tellNumber 81 = .ok (.iconst 1, 1) := by decide +kernel
theorem dX4_tellNumber_82 : decode cX4_tellNumber 82 = .ok (.ireturn, 1) := by decide +kernel
theorem dX4_mostOf_0 : decode cX4_mostOf 0 = .ok (.iload_n 0, 1) := by decide +kernel
theorem dX4_mostOf_1 : decode cX4_mostOf 1 = .ok (.lookupswitch 53 #[(103, 48), (104, 45), (108, 50), (119, 43)], 43) := by decide +kernel
theorem dX4_mostOf_44 : decode cX4_mostOf 44 = .ok (.iconst 3, 1) := by decide +kernel
theorem dX4_mostOf_45 : decode cX4_mostOf 45 = .ok (.ireturn, 1) := by decide +kernel
theorem dX4_mostOf_46 : decode cX4_mostOf 46 = .ok (.bipush 20, 2) := by decide +kernel
theorem dX4_mostOf_48 : decode cX4_mostOf 48 = .ok (.ireturn, 1) := by decide +kernel
theorem dX4_mostOf_49 : decode cX4_mostOf 49 = .ok (.iconst 4, 1) := by decide +kernel
theorem dX4_mostOf_50 : decode cX4_mostOf 50 = .ok (.ireturn, 1) := by decide +kernel
theorem dX4_mostOf_51 : decode cX4_mostOf 51 = .ok (.bipush 99, 2) := by decide +kernel
theorem dX4_mostOf_53 : decode cX4_mostOf 53 = .ok (.ireturn, 1) := by decide +kernel
theorem dX4_mostOf_54 : decode cX4_mostOf 54 = .ok (.iconst 0, 1) := by decide +kernel
theorem dX4_mostOf_55 : decode cX4_mostOf 55 = .ok (.ireturn, 1) := by decide +kernel
theorem dX4_minutesFor_0 : decode cX4_minutesFor 0 = .ok (.iload_n 1, 1) := by decide +kernel
theorem dX4_minutesFor_1 : decode cX4_minutesFor 1 = .ok (.istore_n 3, 1) := by decide +kernel
theorem dX4_minutesFor_2 : decode cX4_minutesFor 2 = .ok (.iload_n 0, 1) := by decide +kernel
theorem dX4_minutesFor_3 : decode cX4_minutesFor 3 = .ok (.iconst 1, 1) := by decide +kernel
theorem dX4_minutesFor_4 : decode cX4_minutesFor 4 = .ok (.if_icmp .ne 12, 3) := by decide +kernel
theorem dX4_minutesFor_7 : decode cX4_minutesFor 7 = .ok (.iload_n 1, 1) := by decide +kernel
theorem dX4_minutesFor_8 : decode cX4_minutesFor 8 = .ok (.iconst 1, 1) := by decide +kernel
theorem dX4_minutesFor_9 : decode cX4_minutesFor 9 = .ok (.iadd, 1) := by decide +kernel
theorem dX4_minutesFor_10 : decode cX4_minutesFor 10 = .ok (.iconst 2, 1) := by decide +kernel
theorem dX4_minutesFor_11 : decode cX4_minutesFor 11 = .ok (.idiv, 1) := by decide +kernel
theorem dX4_minutesFor_12 : decode cX4_minutesFor 12 = .ok (.istore_n 3, 1) := by decide +kernel
theorem dX4_minutesFor_13 : decode cX4_minutesFor 13 = .ok (.goto 12, 3) := by decide +kernel
theorem dX4_minutesFor_16 : decode cX4_minutesFor 16 = .ok (.iload_n 0, 1) := by decide +kernel
theorem dX4_minutesFor_17 : decode cX4_minutesFor 17 = .ok (.iconst 3, 1) := by decide +kernel
theorem dX4_minutesFor_18 : decode cX4_minutesFor 18 = .ok (.if_icmp .ne 7, 3) := by decide +kernel
theorem dX4_minutesFor_21 : decode cX4_minutesFor 21 = .ok (.iload_n 1, 1) := by decide +kernel
theorem dX4_minutesFor_22 : decode cX4_minutesFor 22 = .ok (.iconst 2, 1) := by decide +kernel
theorem dX4_minutesFor_23 : decode cX4_minutesFor 23 = .ok (.iadd, 1) := by decide +kernel
theorem dX4_minutesFor_24 : decode cX4_minutesFor 24 = .ok (.istore_n 3, 1) := by decide +kernel
theorem dX4_minutesFor_25 : decode cX4_minutesFor 25 = .ok (.iload_n 2, 1) := by decide +kernel
theorem dX4_minutesFor_26 : decode cX4_minutesFor 26 = .ok (.ifCond .eq 14, 3) := by decide +kernel
theorem dX4_minutesFor_29 : decode cX4_minutesFor 29 = .ok (.iload_n 3, 1) := by decide +kernel
theorem dX4_minutesFor_30 : decode cX4_minutesFor 30 = .ok (.iconst 1, 1) := by decide +kernel
theorem dX4_minutesFor_31 : decode cX4_minutesFor 31 = .ok (.if_icmp .le 9, 3) := by decide +kernel
theorem dX4_minutesFor_34 : decode cX4_minutesFor 34 = .ok (.iload_n 3, 1) := by decide +kernel
theorem dX4_minutesFor_35 : decode cX4_minutesFor 35 = .ok (.iconst 1, 1) := by decide +kernel
theorem dX4_minutesFor_36 : decode cX4_minutesFor 36 = .ok (.isub, 1) := by decide +kernel
theorem dX4_minutesFor_37 : decode cX4_minutesFor 37 = .ok (.goto 4, 3) := by decide +kernel
theorem dX4_minutesFor_40 : decode cX4_minutesFor 40 = .ok (.iload_n 3, 1) := by decide +kernel
theorem dX4_minutesFor_41 : decode cX4_minutesFor 41 = .ok (.ireturn, 1) := by decide +kernel
theorem dX5_init_0 : decode cX5_init 0 = .ok (.aload_n 0, 1) := by decide +kernel
theorem dX5_init_1 : decode cX5_init 1 = .ok (.invokespecial 3, 3) := by decide +kernel
theorem dX5_init_4 : decode cX5_init 4 = .ok (.aload_n 0, 1) := by decide +kernel
theorem dX5_init_5 : decode cX5_init 5 = .ok (.bipush 6, 2) := by decide +kernel
theorem dX5_init_7 : decode cX5_init 7 = .ok (.newarray .int, 2) := by decide +kernel
theorem dX5_init_9 : decode cX5_init 9 = .ok (.putfield 9, 3) := by decide +kernel
theorem dX5_init_12 : decode cX5_init 12 = .ok (.aload_n 0, 1) := by decide +kernel
theorem dX5_init_13 : decode cX5_init 13 = .ok (.bipush 6, 2) := by decide +kernel
theorem dX5_init_15 : decode cX5_init 15 = .ok (.newarray .int, 2) := by decide +kernel
theorem dX5_init_17 : decode cX5_init 17 = .ok (.putfield 15, 3) := by decide +kernel
theorem dX5_init_20 : decode cX5_init 20 = .ok (.aload_n 0, 1) := by decide +kernel
theorem dX5_init_21 : decode cX5_init 21 = .ok (.bipush (-4), 2) := by decide +kernel
theorem dX5_init_23 : decode cX5_init 23 = .ok (.putfield 18, 3) := by decide +kernel
theorem dX5_init_26 : decode cX5_init 26 = .ok (.aload_n 0, 1) := by decide +kernel
theorem dX5_init_27 : decode cX5_init 27 = .ok (.aload_n 1, 1) := by decide +kernel
theorem dX5_init_28 : decode cX5_init 28 = .ok (.putfield 22, 3) := by decide +kernel
theorem dX5_init_31 : decode cX5_init 31 = .ok (.aload_n 0, 1) := by decide +kernel
theorem dX5_init_32 : decode cX5_init 32 = .ok (.aload_n 2, 1) := by decide +kernel
theorem dX5_init_33 : decode cX5_init 33 = .ok (.putfield 26, 3) := by decide +kernel
theorem dX5_init_36 : decode cX5_init 36 = .ok (.return_, 1) := by decide +kernel
theorem dX5_tryAllRows_0 : decode cX5_tryAllRows 0 = .ok (.aload_n 1, 1) := by decide +kernel
theorem dX5_tryAllRows_1 : decode cX5_tryAllRows 1 = .ok (.getfield 30, 3) := by decide +kernel
theorem dX5_tryAllRows_4 : decode cX5_tryAllRows 4 = .ok (.aload_n 0, 1) := by decide +kernel
theorem dX5_tryAllRows_5 : decode cX5_tryAllRows 5 = .ok (.getfield 18, 3) := by decide +kernel
theorem dX5_tryAllRows_8 : decode cX5_tryAllRows 8 = .ok (.if_icmp .ne 4, 3) := by decide +kernel
theorem dX5_tryAllRows_11 : decode cX5_tryAllRows 11 = .ok (.return_, 1) := by decide +kernel
theorem dX5_tryAllRows_12 : decode cX5_tryAllRows 12 = .ok (.aload_n 0, 1) := by decide +kernel
theorem dX5_tryAllRows_13 : decode cX5_tryAllRows 13 = .ok (.aload_n 1, 1) := by decide +kernel
theorem dX5_tryAllRows_14 : decode cX5_tryAllRows 14 = .ok (.getfield 30, 3) := by decide +kernel
theorem dX5_tryAllRows_17 : decode cX5_tryAllRows 17 = .ok (.putfield 18, 3) := by decide +kernel
theorem dX5_tryAllRows_20 : decode cX5_tryAllRows 20 = .ok (.aload_n 0, 1) := by decide +kernel
theorem dX5_tryAllRows_21 : decode cX5_tryAllRows 21 = .ok (.bipush (-4), 2) := by decide +kernel
theorem dX5_tryAllRows_23 : decode cX5_tryAllRows 23 = .ok (.putfield 35, 3) := by decide +kernel
theorem dX5_tryAllRows_26 : decode cX5_tryAllRows 26 = .ok (.aload_n 0, 1) := by decide +kernel
theorem dX5_tryAllRows_27 : decode cX5_tryAllRows 27 = .ok (.bipush (-4), 2) := by decide +kernel
theorem dX5_tryAllRows_29 : decode cX5_tryAllRows 29 = .ok (.putfield 38, 3) := by decide +kernel
theorem dX5_tryAllRows_32 : decode cX5_tryAllRows 32 = .ok (.getstatic 41, 3) := by decide +kernel
theorem dX5_tryAllRows_35 : decode cX5_tryAllRows 35 = .ok (.iconst 0, 1) := by decide +kernel
theorem dX5_tryAllRows_36 : decode cX5_tryAllRows 36 = .ok (.aload_n 0, 1) := by decide +kernel
theorem dX5_tryAllRows_37 : decode cX5_tryAllRows 37 = .ok (.getfield 9, 3) := by decide +kernel
theorem dX5_tryAllRows_40 : decode cX5_tryAllRows 40 = .ok (.iconst 0, 1) := by decide +kernel
theorem dX5_tryAllRows_41 : decode cX5_tryAllRows 41 = .ok (.bipush 6, 2) := by decide +kernel
theorem dX5_tryAllRows_43 : decode cX5_tryAllRows 43 = .ok (.invokestatic 44, 3) := by decide +kernel
theorem dX5_tryAllRows_46 : decode cX5_tryAllRows 46 = .ok (.iconst 1, 1) := by decide +kernel
theorem dX5_tryAllRows_47 : decode cX5_tryAllRows 47 = .ok (.istore_n 2, 1) := by decide +kernel
theorem dX5_tryAllRows_48 : decode cX5_tryAllRows 48 = .ok (.iconst 0, 1) := by decide +kernel
theorem dX5_tryAllRows_49 : decode cX5_tryAllRows 49 = .ok (.istore_n 3, 1) := by decide +kernel
theorem dX5_tryAllRows_50 : decode cX5_tryAllRows 50 = .ok (.iload_n 3, 1) := by decide +kernel
theorem dX5_tryAllRows_51 : decode cX5_tryAllRows 51 = .ok (.sipush 720, 3) := by decide +kernel
theorem dX5_tryAllRows_54 : decode cX5_tryAllRows 54 = .ok (.if_icmp .ge 104, 3) := by decide +kernel
theorem dX5_tryAllRows_57 : decode cX5_tryAllRows 57 = .ok (.iload_n 2, 1) := by decide +kernel
theorem dX5_tryAllRows_58 : decode cX5_tryAllRows 58 = .ok (.ifCond .eq 100, 3) := by decide +kernel
theorem dX5_tryAllRows_61 : decode cX5_tryAllRows 61 = .ok (.aload_n 0, 1) := by decide +kernel
theorem dX5_tryAllRows_62 : decode cX5_tryAllRows 62 = .ok (.getfield 26, 3) := by decide +kernel
theorem dX5_tryAllRows_65 : decode cX5_tryAllRows 65 = .ok (.aload_n 1, 1) := by decide +kernel
theorem dX5_tryAllRows_66 : decode cX5_tryAllRows 66 = .ok (.invokevirtual 50, 3) := by decide +kernel
theorem dX5_tryAllRows_69 : decode cX5_tryAllRows 69 = .ok (.aload_n 0, 1) := by decide +kernel
theorem dX5_tryAllRows_70 : decode cX5_tryAllRows 70 = .ok (.getfield 26, 3) := by decide +kernel
theorem dX5_tryAllRows_73 : decode cX5_tryAllRows 73 = .ok (.aload_n 0, 1) := by decide +kernel
theorem dX5_tryAllRows_74 : decode cX5_tryAllRows 74 = .ok (.getfield 9, 3) := by decide +kernel
theorem dX5_tryAllRows_77 : decode cX5_tryAllRows 77 = .ok (.aload_n 0, 1) := by decide +kernel
theorem dX5_tryAllRows_78 : decode cX5_tryAllRows 78 = .ok (.getfield 35, 3) := by decide +kernel
theorem dX5_tryAllRows_81 : decode cX5_tryAllRows 81 = .ok (.bipush (-4), 2) := by decide +kernel
theorem dX5_tryAllRows_83 : decode cX5_tryAllRows 83 = .ok (.if_icmp .ne 13, 3) := by decide +kernel
theorem dX5_tryAllRows_86 : decode cX5_tryAllRows 86 = .ok (.aload_n 0, 1) := by decide +kernel
theorem dX5_tryAllRows_87 : decode cX5_tryAllRows 87 = .ok (.getfield 26, 3) := by decide +kernel
theorem dX5_tryAllRows_90 : decode cX5_tryAllRows 90 = .ok (.invokevirtual 56, 3) := by decide +kernel
theorem dX5_tryAllRows_93 : decode cX5_tryAllRows 93 = .ok (.goto 7, 3) := by decide +kernel
theorem dX5_tryAllRows_96 : decode cX5_tryAllRows 96 = .ok (.aload_n 0, 1) := by decide +kernel
theorem dX5_tryAllRows_97 : decode cX5_tryAllRows 97 = .ok (.getfield 35, 3) := by decide +kernel
theorem dX5_tryAllRows_100 : decode cX5_tryAllRows 100 = .ok (.invokevirtual 60, 3) := by decide +kernel
theorem dX5_tryAllRows_103 : decode cX5_tryAllRows 103 = .ok (.aload_n 0, 1) := by decide +kernel
theorem dX5_tryAllRows_104 : decode cX5_tryAllRows 104 = .ok (.invokevirtual 64, 3) := by decide +kernel
theorem dX5_tryAllRows_107 : decode cX5_tryAllRows 107 = .ok (.ifCond .eq 40, 3) := by decide +kernel
theorem dX5_tryAllRows_110 : decode cX5_tryAllRows 110 = .ok (.aload_n 0, 1) := by decide +kernel
theorem dX5_tryAllRows_111 : decode cX5_tryAllRows 111 = .ok (.aload_n 0, 1) := by decide +kernel
theorem dX5_tryAllRows_112 : decode cX5_tryAllRows 112 = .ok (.getfield 26, 3) := by decide +kernel
theorem dX5_tryAllRows_115 : decode cX5_tryAllRows 115 = .ok (.getfield 68, 3) := by decide +kernel
theorem dX5_tryAllRows_118 : decode cX5_tryAllRows 118 = .ok (.putfield 35, 3) := by decide +kernel
theorem dX5_tryAllRows_121 : decode cX5_tryAllRows 121 = .ok (.aload_n 0, 1) := by decide +kernel
theorem dX5_tryAllRows_122 : decode cX5_tryAllRows 122 = .ok (.aload_n 0, 1) := by decide +kernel
theorem dX5_tryAllRows_123 : decode cX5_tryAllRows 123 = .ok (.getfield 26, 3) := by decide +kernel
theorem dX5_tryAllRows_126 : decode cX5_tryAllRows 126 = .ok (.getfield 69, 3) := by decide +kernel
theorem dX5_tryAllRows_129 : decode cX5_tryAllRows 129 = .ok (.putfield 38, 3) := by decide +kernel
theorem dX5_tryAllRows_132 : decode cX5_tryAllRows 132 = .ok (.aload_n 0, 1) := by decide +kernel
theorem dX5_tryAllRows_133 : decode cX5_tryAllRows 133 = .ok (.getfield 9, 3) := by decide +kernel
theorem dX5_tryAllRows_136 : decode cX5_tryAllRows 136 = .ok (.iconst 0, 1) := by decide +kernel
theorem dX5_tryAllRows_137 : decode cX5_tryAllRows 137 = .ok (.aload_n 0, 1) := by decide +kernel
theorem dX5_tryAllRows_138 : decode cX5_tryAllRows 138 = .ok (.getfield 15, 3) := by decide +kernel
theorem dX5_tryAllRows_141 : decode cX5_tryAllRows 141 = .ok (.iconst 0, 1) := by decide +kernel
theorem dX5_tryAllRows_142 : decode cX5_tryAllRows 142 = .ok (.bipush 6, 2) := by decide +kernel
theorem dX5_tryAllRows_144 : decode cX5_tryAllRows 144 = .ok (.invokestatic 44, 3) := by decide +kernel
theorem dX5_tryAllRows_147 : decode cX5_tryAllRows 147 = .ok (.aload_n 0, 1) := by decide +kernel
theorem dX5_tryAllRows_148 : decode cX5_tryAllRows 148 = .ok (.invokevirtual 70, 3) := by decide +kernel
theorem dX5_tryAllRows_151 : decode cX5_tryAllRows 151 = .ok (.istore_n 2, 1) := by decide +kernel
theorem dX5_tryAllRows_152 : decode cX5_tryAllRows 152 = .ok (.iinc 3 1, 3) := by decide +kernel
theorem dX5_tryAllRows_155 : decode cX5_tryAllRows 155 = .ok (.goto (-105), 3) := by decide +kernel
theorem dX5_tryAllRows_158 : decode cX5_tryAllRows 158 = .ok (.return_, 1) := by decide +kernel
theorem dX5_isBetter_0 : decode cX5_isBetter 0 = .ok (.aload_n 0, 1) := by decide +kernel
theorem dX5_isBetter_1 : decode cX5_isBetter 1 = .ok (.getfield 26, 3) := by decide +kernel
theorem dX5_isBetter_4 : decode cX5_isBetter 4 = .ok (.getfield 68, 3) := by decide +kernel
theorem dX5_isBetter_7 : decode cX5_isBetter 7 = .ok (.bipush (-4), 2) := by decide +kernel
theorem dX5_isBetter_9 : decode cX5_isBetter 9 = .ok (.if_icmp .eq 12, 3) := by decide +kernel
theorem dX5_isBetter_12 : decode cX5_isBetter 12 = .ok (.aload_n 0, 1) := by decide +kernel
theorem dX5_isBetter_13 : decode cX5_isBetter 13 = .ok (.getfield 35, 3) := by decide +kernel
theorem dX5_isBetter_16 : decode cX5_isBetter 16 = .ok (.bipush (-4), 2) := by decide +kernel
theorem dX5_isBetter_18 : decode cX5_isBetter 18 = .ok (.if_icmp .ne 21, 3) := by decide +kernel
theorem dX5_isBetter_21 : decode cX5_isBetter 21 = .ok (.aload_n 0, 1) := by decide +kernel
theorem dX5_isBetter_22 : decode cX5_isBetter 22 = .ok (.getfield 26, 3) := by decide +kernel
theorem dX5_isBetter_25 : decode cX5_isBetter 25 = .ok (.getfield 68, 3) := by decide +kernel
theorem dX5_isBetter_28 : decode cX5_isBetter 28 = .ok (.bipush (-4), 2) := by decide +kernel
theorem dX5_isBetter_30 : decode cX5_isBetter 30 = .ok (.if_icmp .eq 7, 3) := by decide +kernel
theorem dX5_isBetter_33 : decode cX5_isBetter 33 = .ok (.iconst 1, 1) := by decide +kernel
theorem dX5_isBetter_34 : decode cX5_isBetter 34 = .ok (.goto 4, 3) := by decide +kernel
theorem dX5_isBetter_37 : decode cX5_isBetter 37 = .ok (.iconst 0, 1) := by decide +kernel
theorem dX5_isBetter_38 : decode cX5_isBetter 38 = .ok (.ireturn, 1) := by decide +kernel
theorem dX5_isBetter_39 : decode cX5_isBetter 39 = .ok (.aload_n 0, 1) := by decide +kernel
theorem dX5_isBetter_40 : decode cX5_isBetter 40 = .ok (.getfield 26, 3) := by decide +kernel
theorem dX5_isBetter_43 : decode cX5_isBetter 43 = .ok (.getfield 68, 3) := by decide +kernel
theorem dX5_isBetter_46 : decode cX5_isBetter 46 = .ok (.aload_n 0, 1) := by decide +kernel
theorem dX5_isBetter_47 : decode cX5_isBetter 47 = .ok (.getfield 35, 3) := by decide +kernel
theorem dX5_isBetter_50 : decode cX5_isBetter 50 = .ok (.if_icmp .lt 31, 3) := by decide +kernel
theorem dX5_isBetter_53 : decode cX5_isBetter 53 = .ok (.aload_n 0, 1) := by decide +kernel
theorem dX5_isBetter_54 : decode cX5_isBetter 54 = .ok (.getfield 26, 3) := by decide +kernel
theorem dX5_isBetter_57 : decode cX5_isBetter 57 = .ok (.getfield 68, 3) := by decide +kernel
theorem dX5_isBetter_60 : decode cX5_isBetter 60 = .ok (.aload_n 0, 1) := by decide +kernel
theorem dX5_isBetter_61 : decode cX5_isBetter 61 = .ok (.getfield 35, 3) := by decide +kernel
theorem dX5_isBetter_64 : decode cX5_isBetter 64 = .ok (.if_icmp .ne 21, 3) := by decide +kernel
theorem dX5_isBetter_67 : decode cX5_isBetter 67 = .ok (.aload_n 0, 1) := by decide +kernel
theorem dX5_isBetter_68 : decode cX5_isBetter 68 = .ok (.getfield 26, 3) := by decide +kernel
theorem dX5_isBetter_71 : decode cX5_isBetter 71 = .ok (.getfield 69, 3) := by decide +kernel
theorem dX5_isBetter_74 : decode cX5_isBetter 74 = .ok (.aload_n 0, 1) := by decide +kernel
theorem dX5_isBetter_75 : decode cX5_isBetter 75 = .ok (.getfield 38, 3) := by decide +kernel
theorem dX5_isBetter_78 : decode cX5_isBetter 78 = .ok (.if_icmp .ge 7, 3) := by decide +kernel
theorem dX5_isBetter_81 : decode cX5_isBetter 81 = .ok (.iconst 1, 1) := by decide +kernel
theorem dX5_isBetter_82 : decode cX5_isBetter 82 = .ok (.goto 4, 3) := by decide +kernel
theorem dX5_isBetter_85 : decode cX5_isBetter 85 = .ok (.iconst 0, 1) := by decide +kernel
theorem dX5_isBetter_86 : decode cX5_isBetter 86 = .ok (.ireturn, 1) := by decide +kernel
theorem dX5_nextRow_0 : decode cX5_nextRow 0 = .ok (.aload_n 0, 1) := by decide +kernel
theorem dX5_nextRow_1 : decode cX5_nextRow 1 = .ok (.getfield 22, 3) := by decide +kernel
theorem dX5_nextRow_4 : decode cX5_nextRow 4 = .ok (.getfield 73, 3) := by decide +kernel
theorem dX5_nextRow_7 : decode cX5_nextRow 7 = .ok (.bipush 6, 2) := by decide +kernel
theorem dX5_nextRow_9 : decode cX5_nextRow 9 = .ok (.invokestatic 78, 3) := by decide +kernel
theorem dX5_nextRow_12 : decode cX5_nextRow 12 = .ok (.istore_n 1, 1) := by decide +kernel
theorem dX5_nextRow_13 : decode cX5_nextRow 13 = .ok (.iload_n 1, 1) := by decide +kernel
theorem dX5_nextRow_14 : decode cX5_nextRow 14 = .ok (.iconst 2, 1) := by decide +kernel
theorem dX5_nextRow_15 : decode cX5_nextRow 15 = .ok (.isub, 1) := by decide +kernel
theorem dX5_nextRow_16 : decode cX5_nextRow 16 = .ok (.istore_n 2, 1) := by decide +kernel
theorem dX5_nextRow_17 : decode cX5_nextRow 17 = .ok (.iload_n 2, 1) := by decide +kernel
theorem dX5_nextRow_18 : decode cX5_nextRow 18 = .ok (.ifCond .lt 26, 3) := by decide +kernel
theorem dX5_nextRow_21 : decode cX5_nextRow 21 = .ok (.aload_n 0, 1) := by decide +kernel
theorem dX5_nextRow_22 : decode cX5_nextRow 22 = .ok (.getfield 9, 3) := by decide +kernel
theorem dX5_nextRow_25 : decode cX5_nextRow 25 = .ok (.iload_n 2, 1) := by decide +kernel
theorem dX5_nextRow_26 : decode cX5_nextRow 26 = .ok (.iaload, 1) := by decide +kernel
theorem dX5_nextRow_27 : decode cX5_nextRow 27 = .ok (.aload_n 0, 1) := by decide +kernel
theorem dX5_nextRow_28 : decode cX5_nextRow 28 = .ok (.getfield 9, 3) := by decide +kernel
theorem dX5_nextRow_31 : decode cX5_nextRow 31 = .ok (.iload_n 2, 1) := by decide +kernel
theorem dX5_nextRow_32 : decode cX5_nextRow 32 = .ok (.iconst 1, 1) := by decide +kernel
theorem dX5_nextRow_33 : decode cX5_nextRow 33 = .ok (.iadd, 1) := by decide +kernel
theorem dX5_nextRow_34 : decode cX5_nextRow 34 = .ok (.iaload, 1) := by decide +kernel
theorem dX5_nextRow_35 : decode cX5_nextRow 35 = .ok (.if_icmp .le 9, 3) := by decide +kernel
theorem dX5_nextRow_38 : decode cX5_nextRow 38 = .ok (.iinc 2 (-1), 3) := by decide +kernel
theorem dX5_nextRow_41 : decode cX5_nextRow 41 = .ok (.goto (-24), 3) := by decide +kernel
theorem dX5_nextRow_44 : decode cX5_nextRow 44 = .ok (.iload_n 2, 1) := by decide +kernel
theorem dX5_nextRow_45 : decode cX5_nextRow 45 = .ok (.ifCond .ge 5, 3) := by decide +kernel
theorem dX5_nextRow_48 : decode cX5_nextRow 48 = .ok (.iconst 0, 1) := by decide +kernel
theorem dX5_nextRow_49 : decode cX5_nextRow 49 = .ok (.ireturn, 1) := by decide +kernel
theorem dX5_nextRow_50 : decode cX5_nextRow 50 = .ok (.iload_n 1, 1) := by decide +kernel
theorem dX5_nextRow_51 : decode cX5_nextRow 51 = .ok (.iconst 1, 1) := by decide +kernel
theorem dX5_nextRow_52 : decode cX5_nextRow 52 = .ok (.isub, 1) := by decide +kernel
theorem dX5_nextRow_53 : decode cX5_nextRow 53 = .ok (.istore_n 3, 1) := by decide +kernel
theorem dX5_nextRow_54 : decode cX5_nextRow 54 = .ok (.iload_n 3, 1) := by decide +kernel
theorem dX5_nextRow_55 : decode cX5_nextRow 55 = .ok (.iload_n 2, 1) := by decide +kernel
theorem dX5_nextRow_56 : decode cX5_nextRow 56 = .ok (.if_icmp .le 24, 3) := by decide +kernel
theorem dX5_nextRow_59 : decode cX5_nextRow 59 = .ok (.aload_n 0, 1) := by decide +kernel
theorem dX5_nextRow_60 : decode cX5_nextRow 60 = .ok (.getfield 9, 3) := by decide +kernel
theorem dX5_nextRow_63 : decode cX5_nextRow 63 = .ok (.iload_n 3, 1) := by decide +kernel
theorem dX5_nextRow_64 : decode cX5_nextRow 64 = .ok (.iaload, 1) := by decide +kernel
theorem dX5_nextRow_65 : decode cX5_nextRow 65 = .ok (.aload_n 0, 1) := by decide +kernel
theorem dX5_nextRow_66 : decode cX5_nextRow 66 = .ok (.getfield 9, 3) := by decide +kernel
theorem dX5_nextRow_69 : decode cX5_nextRow 69 = .ok (.iload_n 2, 1) := by decide +kernel
theorem dX5_nextRow_70 : decode cX5_nextRow 70 = .ok (.iaload, 1) := by decide +kernel
theorem dX5_nextRow_71 : decode cX5_nextRow 71 = .ok (.if_icmp .ge 9, 3) := by decide +kernel
theorem dX5_nextRow_74 : decode cX5_nextRow 74 = .ok (.iinc 3 (-1), 3) := by decide +kernel
theorem dX5_nextRow_77 : decode cX5_nextRow 77 = .ok (.goto (-23), 3) := by decide +kernel
theorem dX5_nextRow_80 : decode cX5_nextRow 80 = .ok (.aload_n 0, 1) := by decide +kernel
theorem dX5_nextRow_81 : decode cX5_nextRow 81 = .ok (.iload_n 2, 1) := by decide +kernel
theorem dX5_nextRow_82 : decode cX5_nextRow 82 = .ok (.iload_n 3, 1) := by decide +kernel
theorem dX5_nextRow_83 : decode cX5_nextRow 83 = .ok (.invokevirtual 84, 3) := by decide +kernel
theorem dX5_nextRow_86 : decode cX5_nextRow 86 = .ok (.iload_n 1, 1) := by decide +kernel
theorem dX5_nextRow_87 : decode cX5_nextRow 87 = .ok (.iconst 1, 1) := by decide +kernel
theorem dX5_nextRow_88 : decode cX5_nextRow 88 = .ok (.isub, 1) := by decide +kernel
theorem dX5_nextRow_89 : decode cX5_nextRow 89 = .ok (.istore 4, 2) := by decide +kernel
theorem dX5_nextRow_91 : decode cX5_nextRow 91 = .ok (.iload_n 2, 1) := by decide +kernel
theorem dX5_nextRow_92 : decode cX5_nextRow 92 = .ok (.iconst 1, 1) := by decide +kernel
theorem dX5_nextRow_93 : decode cX5_nextRow 93 = .ok (.iadd, 1) := by decide +kernel
theorem dX5_nextRow_94 : decode cX5_nextRow 94 = .ok (.istore 5, 2) := by decide +kernel
theorem dX5_nextRow_96 : decode cX5_nextRow 96 = .ok (.iload 5, 2) := by decide +kernel
theorem dX5_nextRow_98 : decode cX5_nextRow 98 = .ok (.iload 4, 2) := by decide +kernel
theorem dX5_nextRow_100 : decode cX5_nextRow 100 = .ok (.if_icmp .ge 20, 3) := by decide +kernel
theorem dX5_nextRow_103 : decode cX5_nextRow 103 = .ok (.aload_n 0, 1) := by decide +kernel
theorem dX5_nextRow_104 : decode cX5_nextRow 104 = .ok (.iload 5, 2) := by decide +kernel
theorem dX5_nextRow_106 : decode cX5_nextRow 106 = .ok (.iload 4, 2) := by decide +kernel
theorem dX5_nextRow_108 : decode cX5_nextRow 108 = .ok (.invokevirtual 84, 3) := by decide +kernel
theorem dX5_nextRow_111 : decode cX5_nextRow 111 = .ok (.iinc 4 (-1), 3) := by decide +kernel
theorem dX5_nextRow_114 : decode cX5_nextRow 114 = .ok (.iinc 5 1, 3) := by decide +kernel
theorem dX5_nextRow_117 : decode cX5_nextRow 117 = .ok (.goto (-21), 3) := by decide +kernel
theorem dX5_nextRow_120 : decode cX5_nextRow 120 = .ok (.iconst 1, 1) := by decide +kernel
theorem dX5_nextRow_121 : decode cX5_nextRow 121 = .ok (.ireturn, 1) := by decide +kernel
theorem dX5_swap_0 : decode cX5_swap 0 = .ok (.iload_n 1, 1) := by decide +kernel
theorem dX5_swap_1 : decode cX5_swap 1 = .ok (.iload_n 2, 1) := by decide +kernel
theorem dX5_swap_2 : decode cX5_swap 2 = .ok (.invokestatic 78, 3) := by decide +kernel
theorem dX5_swap_5 : decode cX5_swap 5 = .ok (.ifCond .lt 39, 3) := by decide +kernel
theorem dX5_swap_8 : decode cX5_swap 8 = .ok (.iload_n 1, 1) := by decide +kernel
theorem dX5_swap_9 : decode cX5_swap 9 = .ok (.iload_n 2, 1) := by decide +kernel
theorem dX5_swap_10 : decode cX5_swap 10 = .ok (.invokestatic 88, 3) := by decide +kernel
theorem dX5_swap_13 : decode cX5_swap 13 = .ok (.bipush 6, 2) := by decide +kernel
theorem dX5_swap_15 : decode cX5_swap 15 = .ok (.if_icmp .ge 29, 3) := by decide +kernel
theorem dX5_swap_18 : decode cX5_swap 18 = .ok (.aload_n 0, 1) := by decide +kernel
theorem dX5_swap_19 : decode cX5_swap 19 = .ok (.getfield 9, 3) := by decide +kernel
theorem dX5_swap_22 : decode cX5_swap 22 = .ok (.iload_n 1, 1) := by decide +kernel
theorem dX5_swap_23 : decode cX5_swap 23 = .ok (.iaload, 1) := by decide +kernel
theorem dX5_swap_24 : decode cX5_swap 24 = .ok (.istore_n 3, 1) := by decide +kernel
theorem dX5_swap_25 : decode cX5_swap 25 = .ok (.aload_n 0, 1) := by decide +kernel
theorem dX5_swap_26 : decode cX5_swap 26 = .ok (.getfield 9, 3) := by decide +kernel
theorem dX5_swap_29 : decode cX5_swap 29 = .ok (.iload_n 1, 1) := by decide +kernel
theorem dX5_swap_30 : decode cX5_swap 30 = .ok (.aload_n 0, 1) := by decide +kernel
theorem dX5_swap_31 : decode cX5_swap 31 = .ok (.getfield 9, 3) := by decide +kernel
theorem dX5_swap_34 : decode cX5_swap 34 = .ok (.iload_n 2, 1) := by decide +kernel
theorem dX5_swap_35 : decode cX5_swap 35 = .ok (.iaload, 1) := by decide +kernel
theorem dX5_swap_36 : decode cX5_swap 36 = .ok (.iastore, 1) := by decide +kernel
theorem dX5_swap_37 : decode cX5_swap 37 = .ok (.aload_n 0, 1) := by decide +kernel
theorem dX5_swap_38 : decode cX5_swap 38 = .ok (.getfield 9, 3) := by decide +kernel
theorem dX5_swap_41 : decode cX5_swap 41 = .ok (.iload_n 2, 1) := by decide +kernel
theorem dX5_swap_42 : decode cX5_swap 42 = .ok (.iload_n 3, 1) := by decide +kernel
theorem dX5_swap_43 : decode cX5_swap 43 = .ok (.iastore, 1) := by decide +kernel
theorem dX5_swap_44 : decode cX5_swap 44 = .ok (.return_, 1) := by decide +kernel
theorem dX5_tryEachLast_0 : decode cX5_tryEachLast 0 = .ok (.iconst 0, 1) := by decide +kernel
theorem dX5_tryEachLast_1 : decode cX5_tryEachLast 1 = .ok (.istore_n 2, 1) := by decide +kernel
theorem dX5_tryEachLast_2 : decode cX5_tryEachLast 2 = .ok (.iconst 0, 1) := by decide +kernel
theorem dX5_tryEachLast_3 : decode cX5_tryEachLast 3 = .ok (.istore_n 3, 1) := by decide +kernel
theorem dX5_tryEachLast_4 : decode cX5_tryEachLast 4 = .ok (.iload_n 3, 1) := by decide +kernel
theorem dX5_tryEachLast_5 : decode cX5_tryEachLast 5 = .ok (.aload_n 0, 1) := by decide +kernel
theorem dX5_tryEachLast_6 : decode cX5_tryEachLast 6 = .ok (.getfield 22, 3) := by decide +kernel
theorem dX5_tryEachLast_9 : decode cX5_tryEachLast 9 = .ok (.getfield 73, 3) := by decide +kernel
theorem dX5_tryEachLast_12 : decode cX5_tryEachLast 12 = .ok (.if_icmp .ge 68, 3) := by decide +kernel
theorem dX5_tryEachLast_15 : decode cX5_tryEachLast 15 = .ok (.aload_n 0, 1) := by decide +kernel
theorem dX5_tryEachLast_16 : decode cX5_tryEachLast 16 = .ok (.iload_n 3, 1) := by decide +kernel
theorem dX5_tryEachLast_17 : decode cX5_tryEachLast 17 = .ok (.invokevirtual 91, 3) := by decide +kernel
theorem dX5_tryEachLast_20 : decode cX5_tryEachLast 20 = .ok (.aload_n 0, 1) := by decide +kernel
theorem dX5_tryEachLast_21 : decode cX5_tryEachLast 21 = .ok (.getfield 26, 3) := by decide +kernel
theorem dX5_tryEachLast_24 : decode cX5_tryEachLast 24 = .ok (.aload_n 1, 1) := by decide +kernel
theorem dX5_tryEachLast_25 : decode cX5_tryEachLast 25 = .ok (.invokevirtual 50, 3) := by decide +kernel
theorem dX5_tryEachLast_28 : decode cX5_tryEachLast 28 = .ok (.aload_n 0, 1) := by decide +kernel
theorem dX5_tryEachLast_29 : decode cX5_tryEachLast 29 = .ok (.getfield 26, 3) := by decide +kernel
theorem dX5_tryEachLast_32 : decode cX5_tryEachLast 32 = .ok (.aload_n 0, 1) := by decide +kernel
theorem dX5_tryEachLast_33 : decode cX5_tryEachLast 33 = .ok (.getfield 9, 3) := by decide +kernel
theorem dX5_tryEachLast_36 : decode cX5_tryEachLast 36 = .ok (.aload_n 0, 1) := by decide +kernel
theorem dX5_tryEachLast_37 : decode cX5_tryEachLast 37 = .ok (.getfield 26, 3) := by decide +kernel
theorem dX5_tryEachLast_40 : decode cX5_tryEachLast 40 = .ok (.invokevirtual 56, 3) := by decide +kernel
theorem dX5_tryEachLast_43 : decode cX5_tryEachLast 43 = .ok (.invokevirtual 60, 3) := by decide +kernel
theorem dX5_tryEachLast_46 : decode cX5_tryEachLast 46 = .ok (.aload_n 0, 1) := by decide +kernel
theorem dX5_tryEachLast_47 : decode cX5_tryEachLast 47 = .ok (.getfield 26, 3) := by decide +kernel
theorem dX5_tryEachLast_50 : decode cX5_tryEachLast 50 = .ok (.getfield 68, 3) := by decide +kernel
theorem dX5_tryEachLast_53 : decode cX5_tryEachLast 53 = .ok (.bipush (-4), 2) := by decide +kernel
theorem dX5_tryEachLast_55 : decode cX5_tryEachLast 55 = .ok (.if_icmp .eq 19, 3) := by decide +kernel
theorem dX5_tryEachLast_58 : decode cX5_tryEachLast 58 = .ok (.aload_n 0, 1) := by decide +kernel
theorem dX5_tryEachLast_59 : decode cX5_tryEachLast 59 = .ok (.getfield 26, 3) := by decide +kernel
theorem dX5_tryEachLast_62 : decode cX5_tryEachLast 62 = .ok (.getfield 69, 3) := by decide +kernel
theorem dX5_tryEachLast_65 : decode cX5_tryEachLast 65 = .ok (.ifCond .ne 9, 3) := by decide +kernel
theorem dX5_tryEachLast_68 : decode cX5_tryEachLast 68 = .ok (.iload_n 2, 1) := by decide +kernel
theorem dX5_tryEachLast_69 : decode cX5_tryEachLast 69 = .ok (.iconst 1, 1) := by decide +kernel
theorem dX5_tryEachLast_70 : decode cX5_tryEachLast 70 = .ok (.iload_n 3, 1) := by decide +kernel
theorem dX5_tryEachLast_71 : decode cX5_tryEachLast 71 = .ok (.ishl, 1) := by decide +kernel
theorem dX5_tryEachLast_72 : decode cX5_tryEachLast 72 = .ok (.ior, 1) := by decide +kernel
theorem dX5_tryEachLast_73 : decode cX5_tryEachLast 73 = .ok (.istore_n 2, 1) := by decide +kernel
theorem dX5_tryEachLast_74 : decode cX5_tryEachLast 74 = .ok (.iinc 3 1, 3) := by decide +kernel
theorem dX5_tryEachLast_77 : decode cX5_tryEachLast 77 = .ok (.goto (-73), 3) := by decide +kernel
theorem dX5_tryEachLast_80 : decode cX5_tryEachLast 80 = .ok (.iload_n 2, 1) := by decide +kernel
theorem dX5_tryEachLast_81 : decode cX5_tryEachLast 81 = .ok (.ireturn, 1) := by decide +kernel
theorem dX5_makeRowWithLast_0 : decode cX5_makeRowWithLast 0 = .ok (.iconst 0, 1) := by decide +kernel
theorem dX5_makeRowWithLast_1 : decode cX5_makeRowWithLast 1 = .ok (.istore_n 2, 1) := by decide +kernel
theorem dX5_makeRowWithLast_2 : decode cX5_makeRowWithLast 2 = .ok (.iload_n 2, 1) := by decide +kernel
theorem dX5_makeRowWithLast_3 : decode cX5_makeRowWithLast 3 = .ok (.bipush 6, 2) := by decide +kernel
theorem dX5_makeRowWithLast_5 : decode cX5_makeRowWithLast 5 = .ok (.if_icmp .ge 27, 3) := by decide +kernel
theorem dX5_makeRowWithLast_8 : decode cX5_makeRowWithLast 8 = .ok (.aload_n 0, 1) := by decide +kernel
theorem dX5_makeRowWithLast_9 : decode cX5_makeRowWithLast 9 = .ok (.getfield 9, 3) := by decide +kernel
theorem dX5_makeRowWithLast_12 : decode cX5_makeRowWithLast 12 = .ok (.iload_n 2, 1) := by decide +kernel
theorem dX5_makeRowWithLast_13 : decode cX5_makeRowWithLast 13 = .ok (.iload_n 2, 1) := by decide +kernel
theorem dX5_makeRowWithLast_14 : decode cX5_makeRowWithLast 14 = .ok (.iload_n 1, 1) := by decide +kernel
theorem dX5_makeRowWithLast_15 : decode cX5_makeRowWithLast 15 = .ok (.if_icmp .ge 7, 3) := by decide +kernel
theorem dX5_makeRowWithLast_18 : decode cX5_makeRowWithLast 18 = .ok (.iload_n 2, 1) := by decide +kernel
theorem dX5_makeRowWithLast_19 : decode cX5_makeRowWithLast 19 = .ok (.goto 6, 3) := by decide +kernel
theorem dX5_makeRowWithLast_22 : decode cX5_makeRowWithLast 22 = .ok (.iload_n 2, 1) := by decide +kernel
theorem dX5_makeRowWithLast_23 : decode cX5_makeRowWithLast 23 = .ok (.iconst 1, 1) := by decide +kernel
theorem dX5_makeRowWithLast_24 : decode cX5_makeRowWithLast 24 = .ok (.iadd, 1) := by decide +kernel
theorem dX5_makeRowWithLast_25 : decode cX5_makeRowWithLast 25 = .ok (.iastore, 1) := by decide +kernel
theorem dX5_makeRowWithLast_26 : decode cX5_makeRowWithLast 26 = .ok (.iinc 2 1, 3) := by decide +kernel
theorem dX5_makeRowWithLast_29 : decode cX5_makeRowWithLast 29 = .ok (.goto (-27), 3) := by decide +kernel
theorem dX5_makeRowWithLast_32 : decode cX5_makeRowWithLast 32 = .ok (.aload_n 0, 1) := by decide +kernel
theorem dX5_makeRowWithLast_33 : decode cX5_makeRowWithLast 33 = .ok (.getfield 22, 3) := by decide +kernel
theorem dX5_makeRowWithLast_36 : decode cX5_makeRowWithLast 36 = .ok (.getfield 73, 3) := by decide +kernel
theorem dX5_makeRowWithLast_39 : decode cX5_makeRowWithLast 39 = .ok (.bipush 6, 2) := by decide +kernel
theorem dX5_makeRowWithLast_41 : decode cX5_makeRowWithLast 41 = .ok (.invokestatic 78, 3) := by decide +kernel
theorem dX5_makeRowWithLast_44 : decode cX5_makeRowWithLast 44 = .ok (.istore_n 2, 1) := by decide +kernel
theorem dX5_makeRowWithLast_45 : decode cX5_makeRowWithLast 45 = .ok (.iload_n 2, 1) := by decide +kernel
theorem dX5_makeRowWithLast_46 : decode cX5_makeRowWithLast 46 = .ok (.ifCond .le 12, 3) := by decide +kernel
theorem dX5_makeRowWithLast_49 : decode cX5_makeRowWithLast 49 = .ok (.aload_n 0, 1) := by decide +kernel
theorem dX5_makeRowWithLast_50 : decode cX5_makeRowWithLast 50 = .ok (.getfield 9, 3) := by decide +kernel
theorem dX5_makeRowWithLast_53 : decode cX5_makeRowWithLast 53 = .ok (.iload_n 2, 1) := by decide +kernel
theorem dX5_makeRowWithLast_54 : decode cX5_makeRowWithLast 54 = .ok (.iconst 1, 1) := by decide +kernel
theorem dX5_makeRowWithLast_55 : decode cX5_makeRowWithLast 55 = .ok (.isub, 1) := by decide +kernel
theorem dX5_makeRowWithLast_56 : decode cX5_makeRowWithLast 56 = .ok (.iload_n 1, 1) := by decide +kernel
theorem dX5_makeRowWithLast_57 : decode cX5_makeRowWithLast 57 = .ok (.iastore, 1) := by decide +kernel
theorem dX5_makeRowWithLast_58 : decode cX5_makeRowWithLast 58 = .ok (.return_, 1) := by decide +kernel
theorem dX6_init_0 : decode cX6_init 0 = .ok (.aload_n 0, 1) := by decide +kernel
theorem dX6_init_1 : decode cX6_init 1 = .ok (.invokespecial 1, 3) := by decide +kernel
theorem dX6_init_4 : decode cX6_init 4 = .ok (.aload_n 0, 1) := by decide +kernel
theorem dX6_init_5 : decode cX6_init 5 = .ok (.bipush 8, 2) := by decide +kernel
theorem dX6_init_7 : decode cX6_init 7 = .ok (.newarray .int, 2) := by decide +kernel
theorem dX6_init_9 : decode cX6_init 9 = .ok (.putfield 9, 3) := by decide +kernel
theorem dX6_init_12 : decode cX6_init 12 = .ok (.aload_n 0, 1) := by decide +kernel
theorem dX6_init_13 : decode cX6_init 13 = .ok (.bipush 8, 2) := by decide +kernel
theorem dX6_init_15 : decode cX6_init 15 = .ok (.newarray .int, 2) := by decide +kernel
theorem dX6_init_17 : decode cX6_init 17 = .ok (.putfield 13, 3) := by decide +kernel
theorem dX6_init_20 : decode cX6_init 20 = .ok (.aload_n 0, 1) := by decide +kernel
theorem dX6_init_21 : decode cX6_init 21 = .ok (.bipush 8, 2) := by decide +kernel
theorem dX6_init_23 : decode cX6_init 23 = .ok (.newarray .boolean, 2) := by decide +kernel
theorem dX6_init_25 : decode cX6_init 25 = .ok (.putfield 16, 3) := by decide +kernel
theorem dX6_init_28 : decode cX6_init 28 = .ok (.return_, 1) := by decide +kernel
theorem dX6_add_0 : decode cX6_add 0 = .ok (.aload_n 0, 1) := by decide +kernel
theorem dX6_add_1 : decode cX6_add 1 = .ok (.getfield 20, 3) := by decide +kernel
theorem dX6_add_4 : decode cX6_add 4 = .ok (.ifCond .lt 12, 3) := by decide +kernel
theorem dX6_add_7 : decode cX6_add 7 = .ok (.aload_n 0, 1) := by decide +kernel
theorem dX6_add_8 : decode cX6_add 8 = .ok (.getfield 20, 3) := by decide +kernel
theorem dX6_add_11 : decode cX6_add 11 = .ok (.bipush 8, 2) := by decide +kernel
theorem dX6_add_13 : decode cX6_add 13 = .ok (.if_icmp .lt 5, 3) := by decide +kernel
theorem dX6_add_16 : decode cX6_add 16 = .ok (.iconst 0, 1) := by decide +kernel
theorem dX6_add_17 : decode cX6_add 17 = .ok (.ireturn, 1) := by decide +kernel
theorem dX6_add_18 : decode cX6_add 18 = .ok (.aload_n 0, 1) := by decide +kernel
theorem dX6_add_19 : decode cX6_add 19 = .ok (.getfield 9, 3) := by decide +kernel
theorem dX6_add_22 : decode cX6_add 22 = .ok (.aload_n 0, 1) := by decide +kernel
theorem dX6_add_23 : decode cX6_add 23 = .ok (.getfield 20, 3) := by decide +kernel
theorem dX6_add_26 : decode cX6_add 26 = .ok (.iload_n 1, 1) := by decide +kernel
theorem dX6_add_27 : decode cX6_add 27 = .ok (.iastore, 1) := by decide +kernel
theorem dX6_add_28 : decode cX6_add 28 = .ok (.aload_n 0, 1) := by decide +kernel
theorem dX6_add_29 : decode cX6_add 29 = .ok (.getfield 13, 3) := by decide +kernel
theorem dX6_add_32 : decode cX6_add 32 = .ok (.aload_n 0, 1) := by decide +kernel
theorem dX6_add_33 : decode cX6_add 33 = .ok (.getfield 20, 3) := by decide +kernel
theorem dX6_add_36 : decode cX6_add 36 = .ok (.iload_n 2, 1) := by decide +kernel
theorem dX6_add_37 : decode cX6_add 37 = .ok (.iastore, 1) := by decide +kernel
theorem dX6_add_38 : decode cX6_add 38 = .ok (.aload_n 0, 1) := by decide +kernel
theorem dX6_add_39 : decode cX6_add 39 = .ok (.getfield 16, 3) := by decide +kernel
theorem dX6_add_42 : decode cX6_add 42 = .ok (.aload_n 0, 1) := by decide +kernel
theorem dX6_add_43 : decode cX6_add 43 = .ok (.getfield 20, 3) := by decide +kernel
theorem dX6_add_46 : decode cX6_add 46 = .ok (.iload_n 3, 1) := by decide +kernel
theorem dX6_add_47 : decode cX6_add 47 = .ok (.bastore, 1) := by decide +kernel
theorem dX6_add_48 : decode cX6_add 48 = .ok (.aload_n 0, 1) := by decide +kernel
theorem dX6_add_49 : decode cX6_add 49 = .ok (.dup, 1) := by decide +kernel
theorem dX6_add_50 : decode cX6_add 50 = .ok (.getfield 20, 3) := by decide +kernel
theorem dX6_add_53 : decode cX6_add 53 = .ok (.iconst 1, 1) := by decide +kernel
theorem dX6_add_54 : decode cX6_add 54 = .ok (.iadd, 1) := by decide +kernel
theorem dX6_add_55 : decode cX6_add 55 = .ok (.putfield 20, 3) := by decide +kernel
theorem dX6_add_58 : decode cX6_add 58 = .ok (.iconst 1, 1) := by decide +kernel
theorem dX6_add_59 : decode cX6_add 59 = .ok (.ireturn, 1) := by decide +kernel
theorem dX6_wouldBe_0 : decode cX6_wouldBe 0 = .ok (.iconst 0, 1) := by decide +kernel
theorem dX6_wouldBe_1 : decode cX6_wouldBe 1 = .ok (.istore 4, 2) := by decide +kernel
theorem dX6_wouldBe_3 : decode cX6_wouldBe 3 = .ok (.iload 4, 2) := by decide +kernel
theorem dX6_wouldBe_5 : decode cX6_wouldBe 5 = .ok (.aload_n 0, 1) := by decide +kernel
theorem dX6_wouldBe_6 : decode cX6_wouldBe 6 = .ok (.getfield 20, 3) := by decide +kernel
theorem dX6_wouldBe_9 : decode cX6_wouldBe 9 = .ok (.if_icmp .ge 51, 3) := by decide +kernel
theorem dX6_wouldBe_12 : decode cX6_wouldBe 12 = .ok (.iload 4, 2) := by decide +kernel
theorem dX6_wouldBe_14 : decode cX6_wouldBe 14 = .ok (.bipush 8, 2) := by decide +kernel
theorem dX6_wouldBe_16 : decode cX6_wouldBe 16 = .ok (.if_icmp .ge 44, 3) := by decide +kernel
theorem dX6_wouldBe_19 : decode cX6_wouldBe 19 = .ok (.aload_n 0, 1) := by decide +kernel
theorem dX6_wouldBe_20 : decode cX6_wouldBe 20 = .ok (.getfield 9, 3) := by decide +kernel
theorem dX6_wouldBe_23 : decode cX6_wouldBe 23 = .ok (.iload 4, 2) := by decide +kernel
theorem dX6_wouldBe_25 : decode cX6_wouldBe 25 = .ok (.iaload, 1) := by decide +kernel
theorem dX6_wouldBe_26 : decode cX6_wouldBe 26 = .ok (.iload_n 1, 1) := by decide +kernel
theorem dX6_wouldBe_27 : decode cX6_wouldBe 27 = .ok (.if_icmp .ne 27, 3) := by decide +kernel
theorem dX6_wouldBe_30 : decode cX6_wouldBe 30 = .ok (.iload_n 2, 1) := by decide +kernel
theorem dX6_wouldBe_31 : decode cX6_wouldBe 31 = .ok (.iload_n 3, 1) := by decide +kernel
theorem dX6_wouldBe_32 : decode cX6_wouldBe 32 = .ok (.aload_n 0, 1) := by decide +kernel
theorem dX6_wouldBe_33 : decode cX6_wouldBe 33 = .ok (.getfield 16, 3) := by decide +kernel
theorem dX6_wouldBe_36 : decode cX6_wouldBe 36 = .ok (.iload 4, 2) := by decide +kernel
theorem dX6_wouldBe_38 : decode cX6_wouldBe 38 = .ok (.baload, 1) := by decide +kernel
theorem dX6_wouldBe_39 : decode cX6_wouldBe 39 = .ok (.invokestatic 24, 3) := by decide +kernel
theorem dX6_wouldBe_42 : decode cX6_wouldBe 42 = .ok (.aload_n 0, 1) := by decide +kernel
theorem dX6_wouldBe_43 : decode cX6_wouldBe 43 = .ok (.getfield 13, 3) := by decide +kernel
theorem dX6_wouldBe_46 : decode cX6_wouldBe 46 = .ok (.iload 4, 2) := by decide +kernel
theorem dX6_wouldBe_48 : decode cX6_wouldBe 48 = .ok (.iaload, 1) := by decide +kernel
theorem dX6_wouldBe_49 : decode cX6_wouldBe 49 = .ok (.if_icmp .eq 5, 3) := by decide +kernel
theorem dX6_wouldBe_52 : decode cX6_wouldBe 52 = .ok (.iconst 0, 1) := by decide +kernel
theorem dX6_wouldBe_53 : decode cX6_wouldBe 53 = .ok (.ireturn, 1) := by decide +kernel
theorem dX6_wouldBe_54 : decode cX6_wouldBe 54 = .ok (.iinc 4 1, 3) := by decide +kernel
theorem dX6_wouldBe_57 : decode cX6_wouldBe 57 = .ok (.goto (-54), 3) := by decide +kernel
theorem dX6_wouldBe_60 : decode cX6_wouldBe 60 = .ok (.iconst 1, 1) := by decide +kernel
theorem dX6_wouldBe_61 : decode cX6_wouldBe 61 = .ok (.ireturn, 1) := by decide +kernel
theorem dX7_init_0 : decode cX7_init 0 = .ok (.aload_n 0, 1) := by decide +kernel
theorem dX7_init_1 : decode cX7_init 1 = .ok (.invokespecial 3, 3) := by decide +kernel
theorem dX7_init_4 : decode cX7_init 4 = .ok (.aload_n 0, 1) := by decide +kernel
theorem dX7_init_5 : decode cX7_init 5 = .ok (.sipush 200, 3) := by decide +kernel
theorem dX7_init_8 : decode cX7_init 8 = .ok (.newarray .char, 2) := by decide +kernel
theorem dX7_init_10 : decode cX7_init 10 = .ok (.putfield 9, 3) := by decide +kernel
theorem dX7_init_13 : decode cX7_init 13 = .ok (.return_, 1) := by decide +kernel
theorem dX7_add_0 : decode cX7_add 0 = .ok (.aload_n 0, 1) := by decide +kernel
theorem dX7_add_1 : decode cX7_add 1 = .ok (.getfield 15, 3) := by decide +kernel
theorem dX7_add_4 : decode cX7_add 4 = .ok (.ifCond .lt 15, 3) := by decide +kernel
theorem dX7_add_7 : decode cX7_add 7 = .ok (.aload_n 0, 1) := by decide +kernel
theorem dX7_add_8 : decode cX7_add 8 = .ok (.getfield 15, 3) := by decide +kernel
theorem dX7_add_11 : decode cX7_add 11 = .ok (.aload_n 0, 1) := by decide +kernel
theorem dX7_add_12 : decode cX7_add 12 = .ok (.getfield 9, 3) := by decide +kernel
theorem dX7_add_15 : decode cX7_add 15 = .ok (.arraylength, 1) := by decide +kernel
theorem dX7_add_16 : decode cX7_add 16 = .ok (.if_icmp .lt 5, 3) := by decide +kernel
theorem dX7_add_19 : decode cX7_add 19 = .ok (.iconst 0, 1) := by decide +kernel
theorem dX7_add_20 : decode cX7_add 20 = .ok (.ireturn, 1) := by decide +kernel
theorem dX7_add_21 : decode cX7_add 21 = .ok (.aload_n 0, 1) := by decide +kernel
theorem dX7_add_22 : decode cX7_add 22 = .ok (.getfield 9, 3) := by decide +kernel
theorem dX7_add_25 : decode cX7_add 25 = .ok (.aload_n 0, 1) := by decide +kernel
theorem dX7_add_26 : decode cX7_add 26 = .ok (.getfield 15, 3) := by decide +kernel
theorem dX7_add_29 : decode cX7_add 29 = .ok (.iload_n 1, 1) := by decide +kernel
theorem dX7_add_30 : decode cX7_add 30 = .ok (.castore, 1) := by decide +kernel
theorem dX7_add_31 : decode cX7_add 31 = .ok (.aload_n 0, 1) := by decide +kernel
theorem dX7_add_32 : decode cX7_add 32 = .ok (.dup, 1) := by decide +kernel
theorem dX7_add_33 : decode cX7_add 33 = .ok (.getfield 15, 3) := by decide +kernel
theorem dX7_add_36 : decode cX7_add 36 = .ok (.iconst 1, 1) := by decide +kernel
theorem dX7_add_37 : decode cX7_add 37 = .ok (.iadd, 1) := by decide +kernel
theorem dX7_add_38 : decode cX7_add 38 = .ok (.putfield 15, 3) := by decide +kernel
theorem dX7_add_41 : decode cX7_add 41 = .ok (.iconst 1, 1) := by decide +kernel
theorem dX7_add_42 : decode cX7_add 42 = .ok (.ireturn, 1) := by decide +kernel
theorem dX7_clear_0 : decode cX7_clear 0 = .ok (.aload_n 0, 1) := by decide +kernel
theorem dX7_clear_1 : decode cX7_clear 1 = .ok (.iconst 0, 1) := by decide +kernel
theorem dX7_clear_2 : decode cX7_clear 2 = .ok (.putfield 15, 3) := by decide +kernel
theorem dX7_clear_5 : decode cX7_clear 5 = .ok (.return_, 1) := by decide +kernel
theorem dX7_readInto_0 : decode cX7_readInto 0 = .ok (.aload_n 1, 1) := by decide +kernel
theorem dX7_readInto_1 : decode cX7_readInto 1 = .ok (.invokevirtual 19, 3) := by decide +kernel
theorem dX7_readInto_4 : decode cX7_readInto 4 = .ok (.iconst 0, 1) := by decide +kernel
theorem dX7_readInto_5 : decode cX7_readInto 5 = .ok (.istore_n 2, 1) := by decide +kernel
theorem dX7_readInto_6 : decode cX7_readInto 6 = .ok (.iload_n 2, 1) := by decide +kernel
theorem dX7_readInto_7 : decode cX7_readInto 7 = .ok (.aload_n 0, 1) := by decide +kernel
theorem dX7_readInto_8 : decode cX7_readInto 8 = .ok (.getfield 15, 3) := by decide +kernel
theorem dX7_readInto_11 : decode cX7_readInto 11 = .ok (.if_icmp .ge 22, 3) := by decide +kernel
theorem dX7_readInto_14 : decode cX7_readInto 14 = .ok (.aload_n 0, 1) := by decide +kernel
theorem dX7_readInto_15 : decode cX7_readInto 15 = .ok (.iload_n 2, 1) := by decide +kernel
theorem dX7_readInto_16 : decode cX7_readInto 16 = .ok (.aload_n 1, 1) := by decide +kernel
theorem dX7_readInto_17 : decode cX7_readInto 17 = .ok (.invokevirtual 24, 3) := by decide +kernel
theorem dX7_readInto_20 : decode cX7_readInto 20 = .ok (.istore_n 3, 1) := by decide +kernel
theorem dX7_readInto_21 : decode cX7_readInto 21 = .ok (.iload_n 3, 1) := by decide +kernel
theorem dX7_readInto_22 : decode cX7_readInto 22 = .ok (.iload_n 2, 1) := by decide +kernel
theorem dX7_readInto_23 : decode cX7_readInto 23 = .ok (.if_icmp .gt 5, 3) := by decide +kernel
theorem dX7_readInto_26 : decode cX7_readInto 26 = .ok (.iload_n 2, 1) := by decide +kernel
theorem dX7_readInto_27 : decode cX7_readInto 27 = .ok (.ireturn, 1) := by decide +kernel
theorem dX7_readInto_28 : decode cX7_readInto 28 = .ok (.iload_n 3, 1) := by decide +kernel
theorem dX7_readInto_29 : decode cX7_readInto 29 = .ok (.istore_n 2, 1) := by decide +kernel
theorem dX7_readInto_30 : decode cX7_readInto 30 = .ok (.goto (-24), 3) := by decide +kernel
theorem dX7_readInto_33 : decode cX7_readInto 33 = .ok (.bipush (-4), 2) := by decide +kernel
theorem dX7_readInto_35 : decode cX7_readInto 35 = .ok (.ireturn, 1) := by decide +kernel
theorem dX7_readItem_0 : decode cX7_readItem 0 = .ok (.aload_n 0, 1) := by decide +kernel
theorem dX7_readItem_1 : decode cX7_readItem 1 = .ok (.iload_n 1, 1) := by decide +kernel
theorem dX7_readItem_2 : decode cX7_readItem 2 = .ok (.invokevirtual 28, 3) := by decide +kernel
theorem dX7_readItem_5 : decode cX7_readItem 5 = .ok (.istore_n 3, 1) := by decide +kernel
theorem dX7_readItem_6 : decode cX7_readItem 6 = .ok (.iload_n 1, 1) := by decide +kernel
theorem dX7_readItem_7 : decode cX7_readItem 7 = .ok (.iconst 1, 1) := by decide +kernel
theorem dX7_readItem_8 : decode cX7_readItem 8 = .ok (.iadd, 1) := by decide +kernel
theorem dX7_readItem_9 : decode cX7_readItem 9 = .ok (.istore 4, 2) := by decide +kernel
theorem dX7_readItem_11 : decode cX7_readItem 11 = .ok (.aload_n 0, 1) := by decide +kernel
theorem dX7_readItem_12 : decode cX7_readItem 12 = .ok (.iload 4, 2) := by decide +kernel
theorem dX7_readItem_14 : decode cX7_readItem 14 = .ok (.invokevirtual 32, 3) := by decide +kernel
theorem dX7_readItem_17 : decode cX7_readItem 17 = .ok (.istore 5, 2) := by decide +kernel
theorem dX7_readItem_19 : decode cX7_readItem 19 = .ok (.iload 4, 2) := by decide +kernel
theorem dX7_readItem_21 : decode cX7_readItem 21 = .ok (.aload_n 0, 1) := by decide +kernel
theorem dX7_readItem_22 : decode cX7_readItem 22 = .ok (.iload 4, 2) := by decide +kernel
theorem dX7_readItem_24 : decode cX7_readItem 24 = .ok (.invokevirtual 36, 3) := by decide +kernel
theorem dX7_readItem_27 : decode cX7_readItem 27 = .ok (.iadd, 1) := by decide +kernel
theorem dX7_readItem_28 : decode cX7_readItem 28 = .ok (.istore 4, 2) := by decide +kernel
theorem dX7_readItem_30 : decode cX7_readItem 30 = .ok (.iconst (-1), 1) := by decide +kernel
theorem dX7_readItem_31 : decode cX7_readItem 31 = .ok (.istore 6, 2) := by decide +kernel
theorem dX7_readItem_33 : decode cX7_readItem 33 = .ok (.aload_n 0, 1) := by decide +kernel
theorem dX7_readItem_34 : decode cX7_readItem 34 = .ok (.iload 4, 2) := by decide +kernel
theorem dX7_readItem_36 : decode cX7_readItem 36 = .ok (.invokevirtual 28, 3) := by decide +kernel
theorem dX7_readItem_39 : decode cX7_readItem 39 = .ok (.bipush 44, 2) := by decide +kernel
theorem dX7_readItem_41 : decode cX7_readItem 41 = .ok (.if_icmp .ne 36, 3) := by decide +kernel
theorem dX7_readItem_44 : decode cX7_readItem 44 = .ok (.aload_n 0, 1) := by decide +kernel
theorem dX7_readItem_45 : decode cX7_readItem 45 = .ok (.iload 4, 2) := by decide +kernel
theorem dX7_readItem_47 : decode cX7_readItem 47 = .ok (.iconst 1, 1) := by decide +kernel
theorem dX7_readItem_48 : decode cX7_readItem 48 = .ok (.iadd, 1) := by decide +kernel
theorem dX7_readItem_49 : decode cX7_readItem 49 = .ok (.invokevirtual 32, 3) := by decide +kernel
theorem dX7_readItem_52 : decode cX7_readItem 52 = .ok (.istore 6, 2) := by decide +kernel
theorem dX7_readItem_54 : decode cX7_readItem 54 = .ok (.iload 6, 2) := by decide +kernel
theorem dX7_readItem_56 : decode cX7_readItem 56 = .ok (.iconst (-1), 1) := by decide +kernel
theorem dX7_readItem_57 : decode cX7_readItem 57 = .ok (.if_icmp .ne 5, 3) := by decide +kernel
theorem dX7_readItem_60 : decode cX7_readItem 60 = .ok (.iload_n 1, 1) := by decide +kernel
theorem dX7_readItem_61 : decode cX7_readItem 61 = .ok (.ireturn, 1) := by decide +kernel
theorem dX7_readItem_62 : decode cX7_readItem 62 = .ok (.iload 4, 2) := by decide +kernel
theorem dX7_readItem_64 : decode cX7_readItem 64 = .ok (.iconst 1, 1) := by decide +kernel
theorem dX7_readItem_65 : decode cX7_readItem 65 = .ok (.aload_n 0, 1) := by decide +kernel
theorem dX7_readItem_66 : decode cX7_readItem 66 = .ok (.iload 4, 2) := by decide +kernel
theorem dX7_readItem_68 : decode cX7_readItem 68 = .ok (.iconst 1, 1) := by decide +kernel
theorem dX7_readItem_69 : decode cX7_readItem 69 = .ok (.iadd, 1) := by decide +kernel
theorem dX7_readItem_70 : decode cX7_readItem 70 = .ok (.invokevirtual 36, 3) := by decide +kernel
theorem dX7_readItem_73 : decode cX7_readItem 73 = .ok (.iadd, 1) := by decide +kernel
theorem dX7_readItem_74 : decode cX7_readItem 74 = .ok (.iadd, 1) := by decide +kernel
theorem dX7_readItem_75 : decode cX7_readItem 75 = .ok (.istore 4, 2) := by decide +kernel
theorem dX7_readItem_77 : decode cX7_readItem 77 = .ok (.iload 5, 2) := by decide +kernel
theorem dX7_readItem_79 : decode cX7_readItem 79 = .ok (.iconst (-1), 1) := by decide +kernel
theorem dX7_readItem_80 : decode cX7_readItem 80 = .ok (.if_icmp .eq 18, 3) := by decide +kernel
theorem dX7_readItem_83 : decode cX7_readItem 83 = .ok (.aload_n 0, 1) := by decide +kernel
theorem dX7_readItem_84 : decode cX7_readItem 84 = .ok (.iload 4, 2) := by decide +kernel
theorem dX7_readItem_86 : decode cX7_readItem 86 = .ok (.invokevirtual 28, 3) := by decide +kernel
theorem dX7_readItem_89 : decode cX7_readItem 89 = .ok (.bipush 59, 2) := by decide +kernel
theorem dX7_readItem_91 : decode cX7_readItem 91 = .ok (.if_icmp .ne 7, 3) := by decide +kernel
theorem dX7_readItem_94 : decode cX7_readItem 94 = .ok (.iconst 1, 1) := by decide +kernel
theorem dX7_readItem_95 : decode cX7_readItem 95 = .ok (.goto 4, 3) := by decide +kernel
theorem dX7_readItem_98 : decode cX7_readItem 98 = .ok (.iconst 0, 1) := by decide +kernel
theorem dX7_readItem_99 : decode cX7_readItem 99 = .ok (.istore 7, 2) := by decide +kernel
theorem dX7_readItem_101 : decode cX7_readItem 101 = .ok (.iload 7, 2) := by decide +kernel
theorem dX7_readItem_103 : decode cX7_readItem 103 = .ok (.ifCond .eq 22, 3) := by decide +kernel
theorem dX7_readItem_106 : decode cX7_readItem 106 = .ok (.aload_n 2, 1) := by decide +kernel
theorem dX7_readItem_107 : decode cX7_readItem 107 = .ok (.iload_n 3, 1) := by decide +kernel
theorem dX7_readItem_108 : decode cX7_readItem 108 = .ok (.iload 5, 2) := by decide +kernel
theorem dX7_readItem_110 : decode cX7_readItem 110 = .ok (.iload 6, 2) := by decide +kernel
theorem dX7_readItem_112 : decode cX7_readItem 112 = .ok (.invokevirtual 39, 3) := by decide +kernel
theorem dX7_readItem_115 : decode cX7_readItem 115 = .ok (.ifCond .eq 10, 3) := by decide +kernel
theorem dX7_readItem_118 : decode cX7_readItem 118 = .ok (.iload 4, 2) := by decide +kernel
theorem dX7_readItem_120 : decode cX7_readItem 120 = .ok (.iconst 1, 1) := by decide +kernel
theorem dX7_readItem_121 : decode cX7_readItem 121 = .ok (.iadd, 1) := by decide +kernel
theorem dX7_readItem_122 : decode cX7_readItem 122 = .ok (.goto 4, 3) := by decide +kernel
theorem dX7_readItem_125 : decode cX7_readItem 125 = .ok (.iload_n 1, 1) := by decide +kernel
theorem dX7_readItem_126 : decode cX7_readItem 126 = .ok (.ireturn, 1) := by decide +kernel
theorem dX7_numberAt_0 : decode cX7_numberAt 0 = .ok (.aload_n 0, 1) := by decide +kernel
theorem dX7_numberAt_1 : decode cX7_numberAt 1 = .ok (.iload_n 1, 1) := by decide +kernel
theorem dX7_numberAt_2 : decode cX7_numberAt 2 = .ok (.invokevirtual 36, 3) := by decide +kernel
theorem dX7_numberAt_5 : decode cX7_numberAt 5 = .ok (.istore_n 2, 1) := by decide +kernel
theorem dX7_numberAt_6 : decode cX7_numberAt 6 = .ok (.iload_n 2, 1) := by decide +kernel
theorem dX7_numberAt_7 : decode cX7_numberAt 7 = .ok (.ifCond .ne 5, 3) := by decide +kernel
theorem dX7_numberAt_10 : decode cX7_numberAt 10 = .ok (.iconst (-1), 1) := by decide +kernel
theorem dX7_numberAt_11 : decode cX7_numberAt 11 = .ok (.ireturn, 1) := by decide +kernel
theorem dX7_numberAt_12 : decode cX7_numberAt 12 = .ok (.aload_n 0, 1) := by decide +kernel
theorem dX7_numberAt_13 : decode cX7_numberAt 13 = .ok (.iload_n 1, 1) := by decide +kernel
theorem dX7_numberAt_14 : decode cX7_numberAt 14 = .ok (.invokevirtual 28, 3) := by decide +kernel
theorem dX7_numberAt_17 : decode cX7_numberAt 17 = .ok (.bipush 48, 2) := by decide +kernel
theorem dX7_numberAt_19 : decode cX7_numberAt 19 = .ok (.isub, 1) := by decide +kernel
theorem dX7_numberAt_20 : decode cX7_numberAt 20 = .ok (.istore_n 3, 1) := by decide +kernel
theorem dX7_numberAt_21 : decode cX7_numberAt 21 = .ok (.iload_n 2, 1) := by decide +kernel
theorem dX7_numberAt_22 : decode cX7_numberAt 22 = .ok (.iconst 1, 1) := by decide +kernel
theorem dX7_numberAt_23 : decode cX7_numberAt 23 = .ok (.if_icmp .ne 7, 3) := by decide +kernel
theorem dX7_numberAt_26 : decode cX7_numberAt 26 = .ok (.iload_n 3, 1) := by decide +kernel
theorem dX7_numberAt_27 : decode cX7_numberAt 27 = .ok (.goto 18, 3) := by decide +kernel
theorem dX7_numberAt_30 : decode cX7_numberAt 30 = .ok (.bipush 10, 2) := by decide +kernel
theorem dX7_numberAt_32 : decode cX7_numberAt 32 = .ok (.iload_n 3, 1) := by decide +kernel
theorem dX7_numberAt_33 : decode cX7_numberAt 33 = .ok (.imul, 1) := by decide +kernel
theorem dX7_numberAt_34 : decode cX7_numberAt 34 = .ok (.aload_n 0, 1) := by decide +kernel
theorem dX7_numberAt_35 : decode cX7_numberAt 35 = .ok (.iload_n 1, 1) := by decide +kernel
theorem dX7_numberAt_36 : decode cX7_numberAt 36 = .ok (.iconst 1, 1) := by decide +kernel
theorem dX7_numberAt_37 : decode cX7_numberAt 37 = .ok (.iadd, 1) := by decide +kernel
theorem dX7_numberAt_38 : decode cX7_numberAt 38 = .ok (.invokevirtual 28, 3) := by decide +kernel
theorem dX7_numberAt_41 : decode cX7_numberAt 41 = .ok (.iadd, 1) := by decide +kernel
theorem dX7_numberAt_42 : decode cX7_numberAt 42 = .ok (.bipush 48, 2) := by decide +kernel
theorem dX7_numberAt_44 : decode cX7_numberAt 44 = .ok (.isub, 1) := by decide +kernel
theorem dX7_numberAt_45 : decode cX7_numberAt 45 = .ok (.ireturn, 1) := by decide +kernel
theorem dX7_figuresAt_0 : decode cX7_figuresAt 0 = .ok (.aload_n 0, 1) := by decide +kernel
theorem dX7_figuresAt_1 : decode cX7_figuresAt 1 = .ok (.iload_n 1, 1) := by decide +kernel
theorem dX7_figuresAt_2 : decode cX7_figuresAt 2 = .ok (.invokevirtual 28, 3) := by decide +kernel
theorem dX7_figuresAt_5 : decode cX7_figuresAt 5 = .ok (.invokestatic 43, 3) := by decide +kernel
theorem dX7_figuresAt_8 : decode cX7_figuresAt 8 = .ok (.ifCond .ne 5, 3) := by decide +kernel
theorem dX7_figuresAt_11 : decode cX7_figuresAt 11 = .ok (.iconst 0, 1) := by decide +kernel
theorem dX7_figuresAt_12 : decode cX7_figuresAt 12 = .ok (.ireturn, 1) := by decide +kernel
theorem dX7_figuresAt_13 : decode cX7_figuresAt 13 = .ok (.aload_n 0, 1) := by decide +kernel
theorem dX7_figuresAt_14 : decode cX7_figuresAt 14 = .ok (.iload_n 1, 1) := by decide +kernel
theorem dX7_figuresAt_15 : decode cX7_figuresAt 15 = .ok (.iconst 1, 1) := by decide +kernel
theorem dX7_figuresAt_16 : decode cX7_figuresAt 16 = .ok (.iadd, 1) := by decide +kernel
theorem dX7_figuresAt_17 : decode cX7_figuresAt 17 = .ok (.invokevirtual 28, 3) := by decide +kernel
theorem dX7_figuresAt_20 : decode cX7_figuresAt 20 = .ok (.invokestatic 43, 3) := by decide +kernel
theorem dX7_figuresAt_23 : decode cX7_figuresAt 23 = .ok (.ifCond .eq 7, 3) := by decide +kernel
theorem dX7_figuresAt_26 : decode cX7_figuresAt 26 = .ok (.iconst 2, 1) := by decide +kernel
theorem dX7_figuresAt_27 : decode cX7_figuresAt 27 = .ok (.goto 4, 3) := by decide +kernel
theorem dX7_figuresAt_30 : decode cX7_figuresAt 30 = .ok (.iconst 1, 1) := by decide +kernel
theorem dX7_figuresAt_31 : decode cX7_figuresAt 31 = .ok (.ireturn, 1) := by decide +kernel
theorem dX7_isFigure_0 : decode cX7_isFigure 0 = .ok (.iload_n 0, 1) := by decide +kernel
theorem dX7_isFigure_1 : decode cX7_isFigure 1 = .ok (.bipush 48, 2) := by decide +kernel
theorem dX7_isFigure_3 : decode cX7_isFigure 3 = .ok (.if_icmp .lt 13, 3) := by decide +kernel
theorem dX7_isFigure_6 : decode cX7_isFigure 6 = .ok (.iload_n 0, 1) := by decide +kernel
theorem dX7_isFigure_7 : decode cX7_isFigure 7 = .ok (.bipush 57, 2) := by decide +kernel
theorem dX7_isFigure_9 : decode cX7_isFigure 9 = .ok (.if_icmp .gt 7, 3) := by decide +kernel
theorem dX7_isFigure_12 : decode cX7_isFigure 12 = .ok (.iconst 1, 1) := by decide +kernel
theorem dX7_isFigure_13 : decode cX7_isFigure 13 = .ok (.goto 4, 3) := by decide +kernel
theorem dX7_isFigure_16 : decode cX7_isFigure 16 = .ok (.iconst 0, 1) := by decide +kernel
theorem dX7_isFigure_17 : decode cX7_isFigure 17 = .ok (.ireturn, 1) := by decide +kernel
theorem dX7_letterAt_0 : decode cX7_letterAt 0 = .ok (.iload_n 1, 1) := by decide +kernel
theorem dX7_letterAt_1 : decode cX7_letterAt 1 = .ok (.ifCond .lt 29, 3) := by decide +kernel
theorem dX7_letterAt_4 : decode cX7_letterAt 4 = .ok (.iload_n 1, 1) := by decide +kernel
theorem dX7_letterAt_5 : decode cX7_letterAt 5 = .ok (.aload_n 0, 1) := by decide +kernel
theorem dX7_letterAt_6 : decode cX7_letterAt 6 = .ok (.getfield 15, 3) := by decide +kernel
theorem dX7_letterAt_9 : decode cX7_letterAt 9 = .ok (.if_icmp .ge 21, 3) := by decide +kernel
theorem dX7_letterAt_12 : decode cX7_letterAt 12 = .ok (.iload_n 1, 1) := by decide +kernel
theorem dX7_letterAt_13 : decode cX7_letterAt 13 = .ok (.aload_n 0, 1) := by decide +kernel
theorem dX7_letterAt_14 : decode cX7_letterAt 14 = .ok (.getfield 9, 3) := by decide +kernel
theorem dX7_letterAt_17 : decode cX7_letterAt 17 = .ok (.arraylength, 1) := by decide +kernel
theorem dX7_letterAt_18 : decode cX7_letterAt 18 = .ok (.if_icmp .ge 12, 3) := by decide +kernel
theorem dX7_letterAt_21 : decode cX7_letterAt 21 = .ok (.aload_n 0, 1) := by decide +kernel
theorem dX7_letterAt_22 : decode cX7_letterAt 22 = .ok (.getfield 9, 3) := by decide +kernel
theorem dX7_letterAt_25 : decode cX7_letterAt 25 = .ok (.iload_n 1, 1) := by decide +kernel
theorem dX7_letterAt_26 : decode cX7_letterAt 26 = .ok (.caload, 1) := by decide +kernel
theorem dX7_letterAt_27 : decode cX7_letterAt 27 = .ok (.goto 4, 3) := by decide +kernel
theorem dX7_letterAt_30 : decode cX7_letterAt 30 = .ok (.iconst 0, 1) := by decide +kernel
theorem dX7_letterAt_31 : decode cX7_letterAt 31 = .ok (.ireturn, 1) := by decide +kernel
theorem dX8_init_0 : decode cX8_init 0 = .ok (.aload_n 0, 1) := by decide +kernel
theorem dX8_init_1 : decode cX8_init 1 = .ok (.invokespecial 1, 3) := by decide +kernel
theorem dX8_init_4 : decode cX8_init 4 = .ok (.aload_n 0, 1) := by decide +kernel
theorem dX8_init_5 : decode cX8_init 5 = .ok (.new 7, 3) := by decide +kernel
theorem dX8_init_8 : decode cX8_init 8 = .ok (.dup, 1) := by decide +kernel
theorem dX8_init_9 : decode cX8_init 9 = .ok (.invokespecial 9, 3) := by decide +kernel
theorem dX8_init_12 : decode cX8_init 12 = .ok (.putfield 10, 3) := by decide +kernel
theorem dX8_init_15 : decode cX8_init 15 = .ok (.aload_n 0, 1) := by decide +kernel
theorem dX8_init_16 : decode cX8_init 16 = .ok (.new 16, 3) := by decide +kernel
theorem dX8_init_19 : decode cX8_init 19 = .ok (.dup, 1) := by decide +kernel
theorem dX8_init_20 : decode cX8_init 20 = .ok (.invokespecial 18, 3) := by decide +kernel
theorem dX8_init_23 : decode cX8_init 23 = .ok (.putfield 19, 3) := by decide +kernel
theorem dX8_init_26 : decode cX8_init 26 = .ok (.aload_n 0, 1) := by decide +kernel
theorem dX8_init_27 : decode cX8_init 27 = .ok (.new 16, 3) := by decide +kernel
theorem dX8_init_30 : decode cX8_init 30 = .ok (.dup, 1) := by decide +kernel
theorem dX8_init_31 : decode cX8_init 31 = .ok (.invokespecial 18, 3) := by decide +kernel
theorem dX8_init_34 : decode cX8_init 34 = .ok (.putfield 23, 3) := by decide +kernel
theorem dX8_init_37 : decode cX8_init 37 = .ok (.aload_n 0, 1) := by decide +kernel
theorem dX8_init_38 : decode cX8_init 38 = .ok (.new 26, 3) := by decide +kernel
theorem dX8_init_41 : decode cX8_init 41 = .ok (.dup, 1) := by decide +kernel
theorem dX8_init_42 : decode cX8_init 42 = .ok (.aload_n 0, 1) := by decide +kernel
theorem dX8_init_43 : decode cX8_init 43 = .ok (.getfield 23, 3) := by decide +kernel
theorem dX8_init_46 : decode cX8_init 46 = .ok (.invokespecial 28, 3) := by decide +kernel
theorem dX8_init_49 : decode cX8_init 49 = .ok (.putfield 31, 3) := by decide +kernel
theorem dX8_init_52 : decode cX8_init 52 = .ok (.aload_n 0, 1) := by decide +kernel
theorem dX8_init_53 : decode cX8_init 53 = .ok (.new 35, 3) := by decide +kernel
theorem dX8_init_56 : decode cX8_init 56 = .ok (.dup, 1) := by decide +kernel
theorem dX8_init_57 : decode cX8_init 57 = .ok (.bipush 8, 2) := by decide +kernel
theorem dX8_init_59 : decode cX8_init 59 = .ok (.aload_n 0, 1) := by decide +kernel
theorem dX8_init_60 : decode cX8_init 60 = .ok (.getfield 23, 3) := by decide +kernel
theorem dX8_init_63 : decode cX8_init 63 = .ok (.invokespecial 37, 3) := by decide +kernel
theorem dX8_init_66 : decode cX8_init 66 = .ok (.putfield 40, 3) := by decide +kernel
theorem dX8_init_69 : decode cX8_init 69 = .ok (.aload_n 0, 1) := by decide +kernel
theorem dX8_init_70 : decode cX8_init 70 = .ok (.new 35, 3) := by decide +kernel
theorem dX8_init_73 : decode cX8_init 73 = .ok (.dup, 1) := by decide +kernel
theorem dX8_init_74 : decode cX8_init 74 = .ok (.iconst 2, 1) := by decide +kernel
theorem dX8_init_75 : decode cX8_init 75 = .ok (.aload_n 0, 1) := by decide +kernel
theorem dX8_init_76 : decode cX8_init 76 = .ok (.getfield 23, 3) := by decide +kernel
theorem dX8_init_79 : decode cX8_init 79 = .ok (.invokespecial 37, 3) := by decide +kernel
theorem dX8_init_82 : decode cX8_init 82 = .ok (.putfield 44, 3) := by decide +kernel
theorem dX8_init_85 : decode cX8_init 85 = .ok (.aload_n 0, 1) := by decide +kernel
theorem dX8_init_86 : decode cX8_init 86 = .ok (.new 47, 3) := by decide +kernel
theorem dX8_init_89 : decode cX8_init 89 = .ok (.dup, 1) := by decide +kernel
theorem dX8_init_90 : decode cX8_init 90 = .ok (.aload_n 0, 1) := by decide +kernel
theorem dX8_init_91 : decode cX8_init 91 = .ok (.getfield 23, 3) := by decide +kernel
theorem dX8_init_94 : decode cX8_init 94 = .ok (.invokespecial 49, 3) := by decide +kernel
theorem dX8_init_97 : decode cX8_init 97 = .ok (.putfield 50, 3) := by decide +kernel
theorem dX8_init_100 : decode cX8_init 100 = .ok (.aload_n 0, 1) := by decide +kernel
theorem dX8_init_101 : decode cX8_init 101 = .ok (.new 54, 3) := by decide +kernel
theorem dX8_init_104 : decode cX8_init 104 = .ok (.dup, 1) := by decide +kernel
theorem dX8_init_105 : decode cX8_init 105 = .ok (.aload_n 0, 1) := by decide +kernel
theorem dX8_init_106 : decode cX8_init 106 = .ok (.getfield 23, 3) := by decide +kernel
theorem dX8_init_109 : decode cX8_init 109 = .ok (.aload_n 0, 1) := by decide +kernel
theorem dX8_init_110 : decode cX8_init 110 = .ok (.getfield 50, 3) := by decide +kernel
theorem dX8_init_113 : decode cX8_init 113 = .ok (.invokespecial 56, 3) := by decide +kernel
theorem dX8_init_116 : decode cX8_init 116 = .ok (.putfield 59, 3) := by decide +kernel
theorem dX8_init_119 : decode cX8_init 119 = .ok (.aload_n 0, 1) := by decide +kernel
theorem dX8_init_120 : decode cX8_init 120 = .ok (.new 63, 3) := by decide +kernel
theorem dX8_init_123 : decode cX8_init 123 = .ok (.dup, 1) := by decide +kernel
theorem dX8_init_124 : decode cX8_init 124 = .ok (.invokespecial 65, 3) := by decide +kernel
theorem dX8_init_127 : decode cX8_init 127 = .ok (.putfield 66, 3) := by decide +kernel
theorem dX8_init_130 : decode cX8_init 130 = .ok (.iconst 0, 1) := by decide +kernel
theorem dX8_init_131 : decode cX8_init 131 = .ok (.istore_n 1, 1) := by decide +kernel
theorem dX8_init_132 : decode cX8_init 132 = .ok (.iload_n 1, 1) := by decide +kernel
theorem dX8_init_133 : decode cX8_init 133 = .ok (.ldc 70, 2) := by decide +kernel
theorem dX8_init_135 : decode cX8_init 135 = .ok (.invokevirtual 72, 3) := by decide +kernel
theorem dX8_init_138 : decode cX8_init 138 = .ok (.if_icmp .ge 23, 3) := by decide +kernel
theorem dX8_init_141 : decode cX8_init 141 = .ok (.aload_n 0, 1) := by decide +kernel
theorem dX8_init_142 : decode cX8_init 142 = .ok (.getfield 10, 3) := by decide +kernel
theorem dX8_init_145 : decode cX8_init 145 = .ok (.ldc 70, 2) := by decide +kernel
theorem dX8_init_147 : decode cX8_init 147 = .ok (.iload_n 1, 1) := by decide +kernel
theorem dX8_init_148 : decode cX8_init 148 = .ok (.invokevirtual 78, 3) := by decide +kernel
theorem dX8_init_151 : decode cX8_init 151 = .ok (.invokevirtual 82, 3) := by decide +kernel
theorem dX8_init_154 : decode cX8_init 154 = .ok (.pop, 1) := by decide +kernel
theorem dX8_init_155 : decode cX8_init 155 = .ok (.iinc 1 1, 3) := by decide +kernel
theorem dX8_init_158 : decode cX8_init 158 = .ok (.goto (-26), 3) := by decide +kernel
theorem dX8_init_161 : decode cX8_init 161 = .ok (.aload_n 0, 1) := by decide +kernel
theorem dX8_init_162 : decode cX8_init 162 = .ok (.getfield 10, 3) := by decide +kernel
theorem dX8_init_165 : decode cX8_init 165 = .ok (.aload_n 0, 1) := by decide +kernel
theorem dX8_init_166 : decode cX8_init 166 = .ok (.getfield 23, 3) := by decide +kernel
theorem dX8_init_169 : decode cX8_init 169 = .ok (.invokevirtual 86, 3) := by decide +kernel
theorem dX8_init_172 : decode cX8_init 172 = .ok (.pop, 1) := by decide +kernel
theorem dX8_init_173 : decode cX8_init 173 = .ok (.aload_n 0, 1) := by decide +kernel
theorem dX8_init_174 : decode cX8_init 174 = .ok (.getfield 10, 3) := by decide +kernel
theorem dX8_init_177 : decode cX8_init 177 = .ok (.invokevirtual 90, 3) := by decide +kernel
theorem dX8_init_180 : decode cX8_init 180 = .ok (.aload_n 0, 1) := by decide +kernel
theorem dX8_init_181 : decode cX8_init 181 = .ok (.getfield 31, 3) := by decide +kernel
theorem dX8_init_184 : decode cX8_init 184 = .ok (.aload_n 0, 1) := by decide +kernel
theorem dX8_init_185 : decode cX8_init 185 = .ok (.getfield 23, 3) := by decide +kernel
theorem dX8_init_188 : decode cX8_init 188 = .ok (.getfield 93, 3) := by decide +kernel
theorem dX8_init_191 : decode cX8_init 191 = .ok (.invokevirtual 97, 3) := by decide +kernel
theorem dX8_init_194 : decode cX8_init 194 = .ok (.return_, 1) := by decide +kernel
theorem dX8_write_0 : decode cX8_write 0 = .ok (.iload_n 1, 1) := by decide +kernel
theorem dX8_write_1 : decode cX8_write 1 = .ok (.bipush 32, 2) := by decide +kernel
theorem dX8_write_3 : decode cX8_write 3 = .ok (.if_icmp .lt 9, 3) := by decide +kernel
theorem dX8_write_6 : decode cX8_write 6 = .ok (.iload_n 1, 1) := by decide +kernel
theorem dX8_write_7 : decode cX8_write 7 = .ok (.bipush 126, 2) := by decide +kernel
theorem dX8_write_9 : decode cX8_write 9 = .ok (.if_icmp .le 5, 3) := by decide +kernel
theorem dX8_write_12 : decode cX8_write 12 = .ok (.iconst (-1), 1) := by decide +kernel
theorem dX8_write_13 : decode cX8_write 13 = .ok (.ireturn, 1) := by decide +kernel
theorem dX8_write_14 : decode cX8_write 14 = .ok (.aload_n 0, 1) := by decide +kernel
theorem dX8_write_15 : decode cX8_write 15 = .ok (.getfield 10, 3) := by decide +kernel
theorem dX8_write_18 : decode cX8_write 18 = .ok (.iload_n 1, 1) := by decide +kernel
theorem dX8_write_19 : decode cX8_write 19 = .ok (.i2c, 1) := by decide +kernel
theorem dX8_write_20 : decode cX8_write 20 = .ok (.invokevirtual 82, 3) := by decide +kernel
theorem dX8_write_23 : decode cX8_write 23 = .ok (.ifCond .eq 13, 3) := by decide +kernel
theorem dX8_write_26 : decode cX8_write 26 = .ok (.aload_n 0, 1) := by decide +kernel
theorem dX8_write_27 : decode cX8_write 27 = .ok (.getfield 10, 3) := by decide +kernel
theorem dX8_write_30 : decode cX8_write 30 = .ok (.getfield 101, 3) := by decide +kernel
theorem dX8_write_33 : decode cX8_write 33 = .ok (.goto 5, 3) := by decide +kernel
theorem dX8_write_36 : decode cX8_write 36 = .ok (.bipush (-3), 2) := by decide +kernel
theorem dX8_write_38 : decode cX8_write 38 = .ok (.ireturn, 1) := by decide +kernel
theorem dX8_wipe_0 : decode cX8_wipe 0 = .ok (.aload_n 0, 1) := by decide +kernel
theorem dX8_wipe_1 : decode cX8_wipe 1 = .ok (.getfield 10, 3) := by decide +kernel
theorem dX8_wipe_4 : decode cX8_wipe 4 = .ok (.getfield 101, 3) := by decide +kernel
theorem dX8_wipe_7 : decode cX8_wipe 7 = .ok (.istore_n 1, 1) := by decide +kernel
theorem dX8_wipe_8 : decode cX8_wipe 8 = .ok (.aload_n 0, 1) := by decide +kernel
theorem dX8_wipe_9 : decode cX8_wipe 9 = .ok (.getfield 10, 3) := by decide +kernel
theorem dX8_wipe_12 : decode cX8_wipe 12 = .ok (.invokevirtual 90, 3) := by decide +kernel
theorem dX8_wipe_15 : decode cX8_wipe 15 = .ok (.iload_n 1, 1) := by decide +kernel
theorem dX8_wipe_16 : decode cX8_wipe 16 = .ok (.ireturn, 1) := by decide +kernel
theorem dX8_fault_0 : decode cX8_fault 0 = .ok (.aload_n 0, 1) := by decide +kernel
theorem dX8_fault_1 : decode cX8_fault 1 = .ok (.getfield 10, 3) := by decide +kernel
theorem dX8_fault_4 : decode cX8_fault 4 = .ok (.aload_n 0, 1) := by decide +kernel
theorem dX8_fault_5 : decode cX8_fault 5 = .ok (.getfield 19, 3) := by decide +kernel
theorem dX8_fault_8 : decode cX8_fault 8 = .ok (.invokevirtual 86, 3) := by decide +kernel
theorem dX8_fault_11 : decode cX8_fault 11 = .ok (.ireturn, 1) := by decide +kernel
theorem dX8_lay_0 : decode cX8_lay 0 = .ok (.aload_n 0, 1) := by decide +kernel
theorem dX8_lay_1 : decode cX8_lay 1 = .ok (.getfield 10, 3) := by decide +kernel
theorem dX8_lay_4 : decode cX8_lay 4 = .ok (.aload_n 0, 1) := by decide +kernel
theorem dX8_lay_5 : decode cX8_lay 5 = .ok (.getfield 19, 3) := by decide +kernel
theorem dX8_lay_8 : decode cX8_lay 8 = .ok (.invokevirtual 86, 3) := by decide +kernel
theorem dX8_lay_11 : decode cX8_lay 11 = .ok (.bipush (-4), 2) := by decide +kernel
theorem dX8_lay_13 : decode cX8_lay 13 = .ok (.if_icmp .ne 13, 3) := by decide +kernel
theorem dX8_lay_16 : decode cX8_lay 16 = .ok (.aload_n 0, 1) := by decide +kernel
theorem dX8_lay_17 : decode cX8_lay 17 = .ok (.getfield 19, 3) := by decide +kernel
theorem dX8_lay_20 : decode cX8_lay 20 = .ok (.getfield 103, 3) := by decide +kernel
theorem dX8_lay_23 : decode cX8_lay 23 = .ok (.ifCond .ne 6, 3) := by decide +kernel
theorem dX8_lay_26 : decode cX8_lay 26 = .ok (.bipush (-2), 2) := by decide +kernel
theorem dX8_lay_28 : decode cX8_lay 28 = .ok (.ireturn, 1) := by decide +kernel
theorem dX8_lay_29 : decode cX8_lay 29 = .ok (.aload_n 0, 1) := by decide +kernel
theorem dX8_lay_30 : decode cX8_lay 30 = .ok (.getfield 23, 3) := by decide +kernel
theorem dX8_lay_33 : decode cX8_lay 33 = .ok (.aload_n 0, 1) := by decide +kernel
theorem dX8_lay_34 : decode cX8_lay 34 = .ok (.getfield 19, 3) := by decide +kernel
theorem dX8_lay_37 : decode cX8_lay 37 = .ok (.invokevirtual 106, 3) := by decide +kernel
theorem dX8_lay_40 : decode cX8_lay 40 = .ok (.aload_n 0, 1) := by decide +kernel
theorem dX8_lay_41 : decode cX8_lay 41 = .ok (.getfield 31, 3) := by decide +kernel
theorem dX8_lay_44 : decode cX8_lay 44 = .ok (.aload_n 0, 1) := by decide +kernel
theorem dX8_lay_45 : decode cX8_lay 45 = .ok (.getfield 23, 3) := by decide +kernel
theorem dX8_lay_48 : decode cX8_lay 48 = .ok (.getfield 93, 3) := by decide +kernel
theorem dX8_lay_51 : decode cX8_lay 51 = .ok (.invokevirtual 97, 3) := by decide +kernel
theorem dX8_lay_54 : decode cX8_lay 54 = .ok (.aload_n 0, 1) := by decide +kernel
theorem dX8_lay_55 : decode cX8_lay 55 = .ok (.getfield 40, 3) := by decide +kernel
theorem dX8_lay_58 : decode cX8_lay 58 = .ok (.invokevirtual 109, 3) := by decide +kernel
theorem dX8_lay_61 : decode cX8_lay 61 = .ok (.aload_n 0, 1) := by decide +kernel
theorem dX8_lay_62 : decode cX8_lay 62 = .ok (.getfield 44, 3) := by decide +kernel
theorem dX8_lay_65 : decode cX8_lay 65 = .ok (.invokevirtual 109, 3) := by decide +kernel
theorem dX8_lay_68 : decode cX8_lay 68 = .ok (.aload_n 0, 1) := by decide +kernel
theorem dX8_lay_69 : decode cX8_lay 69 = .ok (.getfield 66, 3) := by decide +kernel
theorem dX8_lay_72 : decode cX8_lay 72 = .ok (.iconst 0, 1) := by decide +kernel
theorem dX8_lay_73 : decode cX8_lay 73 = .ok (.putfield 110, 3) := by decide +kernel
theorem dX8_lay_76 : decode cX8_lay 76 = .ok (.aload_n 0, 1) := by decide +kernel
theorem dX8_lay_77 : decode cX8_lay 77 = .ok (.getfield 23, 3) := by decide +kernel
theorem dX8_lay_80 : decode cX8_lay 80 = .ok (.getfield 103, 3) := by decide +kernel
theorem dX8_lay_83 : decode cX8_lay 83 = .ok (.ireturn, 1) := by decide +kernel
theorem dX8_child_0 : decode cX8_child 0 = .ok (.aload_n 0, 1) := by decide +kernel
theorem dX8_child_1 : decode cX8_child 1 = .ok (.getfield 23, 3) := by decide +kernel
theorem dX8_child_4 : decode cX8_child 4 = .ok (.iload_n 1, 1) := by decide +kernel
theorem dX8_child_5 : decode cX8_child 5 = .ok (.invokevirtual 113, 3) := by decide +kernel
theorem dX8_child_8 : decode cX8_child 8 = .ok (.ifCond .ne 5, 3) := by decide +kernel
theorem dX8_child_11 : decode cX8_child 11 = .ok (.iconst (-1), 1) := by decide +kernel
theorem dX8_child_12 : decode cX8_child 12 = .ok (.ireturn, 1) := by decide +kernel
theorem dX8_child_13 : decode cX8_child 13 = .ok (.iload_n 2, 1) := by decide +kernel
theorem dX8_child_14 : decode cX8_child 14 = .ok (.tableswitch 114 0 5 #[38, 48, 58, 86, 95, 104], 38) := by decide +kernel
theorem dX8_child_52 : decode cX8_child 52 = .ok (.aload_n 0, 1) := by decide +kernel
theorem dX8_child_53 : decode cX8_child 53 = .ok (.getfield 23, 3) := by decide +kernel
theorem dX8_child_56 : decode cX8_child 56 = .ok (.getfield 117, 3) := by decide +kernel
theorem dX8_child_59 : decode cX8_child 59 = .ok (.iload_n 1, 1) := by decide +kernel
theorem dX8_child_60 : decode cX8_child 60 = .ok (.iaload, 1) := by decide +kernel
theorem dX8_child_61 : decode cX8_child 61 = .ok (.ireturn, 1) := by decide +kernel
theorem dX8_child_62 : decode cX8_child 62 = .ok (.aload_n 0, 1) := by decide +kernel
theorem dX8_child_63 : decode cX8_child 63 = .ok (.getfield 31, 3) := by decide +kernel
theorem dX8_child_66 : decode cX8_child 66 = .ok (.getfield 121, 3) := by decide +kernel
theorem dX8_child_69 : decode cX8_child 69 = .ok (.iload_n 1, 1) := by decide +kernel
theorem dX8_child_70 : decode cX8_child 70 = .ok (.iaload, 1) := by decide +kernel
theorem dX8_child_71 : decode cX8_child 71 = .ok (.ireturn, 1) := by decide +kernel
theorem dX8_child_72 : decode cX8_child 72 = .ok (.aload_n 0, 1) := by decide +kernel
theorem dX8_child_73 : decode cX8_child 73 = .ok (.getfield 31, 3) := by decide +kernel
theorem dX8_child_76 : decode cX8_child 76 = .ok (.getfield 121, 3) := by decide +kernel
theorem dX8_child_79 : decode cX8_child 79 = .ok (.iload_n 1, 1) := by decide +kernel
theorem dX8_child_80 : decode cX8_child 80 = .ok (.iaload, 1) := by decide +kernel
theorem dX8_child_81 : decode cX8_child 81 = .ok (.iconst 2, 1) := by decide +kernel
theorem dX8_child_82 : decode cX8_child 82 = .ok (.if_icmp .ne 15, 3) := by decide +kernel
theorem dX8_child_85 : decode cX8_child 85 = .ok (.aload_n 0, 1) := by decide +kernel
theorem dX8_child_86 : decode cX8_child 86 = .ok (.getfield 31, 3) := by decide +kernel
theorem dX8_child_89 : decode cX8_child 89 = .ok (.getfield 124, 3) := by decide +kernel
theorem dX8_child_92 : decode cX8_child 92 = .ok (.iload_n 1, 1) := by decide +kernel
theorem dX8_child_93 : decode cX8_child 93 = .ok (.iaload, 1) := by decide +kernel
theorem dX8_child_94 : decode cX8_child 94 = .ok (.goto 5, 3) := by decide +kernel
theorem dX8_child_97 : decode cX8_child 97 = .ok (.bipush (-4), 2) := by decide +kernel
theorem dX8_child_99 : decode cX8_child 99 = .ok (.ireturn, 1) := by decide +kernel
theorem dX8_child_100 : decode cX8_child 100 = .ok (.aload_n 0, 1) := by decide +kernel
theorem dX8_child_101 : decode cX8_child 101 = .ok (.getfield 31, 3) := by decide +kernel
theorem dX8_child_104 : decode cX8_child 104 = .ok (.iload_n 1, 1) := by decide +kernel
theorem dX8_child_105 : decode cX8_child 105 = .ok (.invokevirtual 127, 3) := by decide +kernel
theorem dX8_child_108 : decode cX8_child 108 = .ok (.ireturn, 1) := by decide +kernel
theorem dX8_child_109 : decode cX8_child 109 = .ok (.aload_n 0, 1) := by decide +kernel
theorem dX8_child_110 : decode cX8_child 110 = .ok (.getfield 31, 3) := by decide +kernel
theorem dX8_child_113 : decode cX8_child 113 = .ok (.iload_n 1, 1) := by decide +kernel
theorem dX8_child_114 : decode cX8_child 114 = .ok (.invokevirtual 131, 3) := by decide +kernel
theorem dX8_child_117 : decode cX8_child 117 = .ok (.ireturn, 1) := by decide +kernel
theorem dX8_child_118 : decode cX8_child 118 = .ok (.aload_n 0, 1) := by decide +kernel
theorem dX8_child_119 : decode cX8_child 119 = .ok (.getfield 31, 3) := by decide +kernel
theorem dX8_child_122 : decode cX8_child 122 = .ok (.getfield 134, 3) := by decide +kernel
theorem dX8_child_125 : decode cX8_child 125 = .ok (.iload_n 1, 1) := by decide +kernel
theorem dX8_child_126 : decode cX8_child 126 = .ok (.iaload, 1) := by decide +kernel
theorem dX8_child_127 : decode cX8_child 127 = .ok (.ireturn, 1) := by decide +kernel
theorem dX8_child_128 : decode cX8_child 128 = .ok (.iconst (-1), 1) := by decide +kernel
theorem dX8_child_129 : decode cX8_child 129 = .ok (.ireturn, 1) := by decide +kernel
theorem dX8_woman_0 : decode cX8_woman 0 = .ok (.aload_n 0, 1) := by decide +kernel
theorem dX8_woman_1 : decode cX8_woman 1 = .ok (.getfield 31, 3) := by decide +kernel
theorem dX8_woman_4 : decode cX8_woman 4 = .ok (.iload_n 1, 1) := by decide +kernel
theorem dX8_woman_5 : decode cX8_woman 5 = .ok (.invokevirtual 137, 3) := by decide +kernel
theorem dX8_woman_8 : decode cX8_woman 8 = .ok (.ifCond .ne 5, 3) := by decide +kernel
theorem dX8_woman_11 : decode cX8_woman 11 = .ok (.iconst (-1), 1) := by decide +kernel
theorem dX8_woman_12 : decode cX8_woman 12 = .ok (.ireturn, 1) := by decide +kernel
theorem dX8_woman_13 : decode cX8_woman 13 = .ok (.iload_n 2, 1) := by decide +kernel
theorem dX8_woman_14 : decode cX8_woman 14 = .ok (.lookupswitch 46 #[(0, 26), (1, 36)], 26) := by decide +kernel
theorem dX8_woman_40 : decode cX8_woman 40 = .ok (.aload_n 0, 1) := by decide +kernel
theorem dX8_woman_41 : decode cX8_woman 41 = .ok (.getfield 31, 3) := by decide +kernel
theorem dX8_woman_44 : decode cX8_woman 44 = .ok (.getfield 140, 3) := by decide +kernel
theorem dX8_woman_47 : decode cX8_woman 47 = .ok (.iload_n 1, 1) := by decide +kernel
theorem dX8_woman_48 : decode cX8_woman 48 = .ok (.iaload, 1) := by decide +kernel
theorem dX8_woman_49 : decode cX8_woman 49 = .ok (.ireturn, 1) := by decide +kernel
theorem dX8_woman_50 : decode cX8_woman 50 = .ok (.aload_n 0, 1) := by decide +kernel
theorem dX8_woman_51 : decode cX8_woman 51 = .ok (.getfield 31, 3) := by decide +kernel
theorem dX8_woman_54 : decode cX8_woman 54 = .ok (.getfield 143, 3) := by decide +kernel
theorem dX8_woman_57 : decode cX8_woman 57 = .ok (.iload_n 1, 1) := by decide +kernel
theorem dX8_woman_58 : decode cX8_woman 58 = .ok (.iaload, 1) := by decide +kernel
theorem dX8_woman_59 : decode cX8_woman 59 = .ok (.ireturn, 1) := by decide +kernel
theorem dX8_woman_60 : decode cX8_woman 60 = .ok (.iconst (-1), 1) := by decide +kernel
theorem dX8_woman_61 : decode cX8_woman 61 = .ok (.ireturn, 1) := by decide +kernel
theorem dX8_take_0 : decode cX8_take 0 = .ok (.aload_n 0, 1) := by decide +kernel
theorem dX8_take_1 : decode cX8_take 1 = .ok (.getfield 31, 3) := by decide +kernel
theorem dX8_take_4 : decode cX8_take 4 = .ok (.iload_n 1, 1) := by decide +kernel
theorem dX8_take_5 : decode cX8_take 5 = .ok (.invokevirtual 137, 3) := by decide +kernel
theorem dX8_take_8 : decode cX8_take 8 = .ok (.ifCond .eq 14, 3) := by decide +kernel
theorem dX8_take_11 : decode cX8_take 11 = .ok (.aload_n 0, 1) := by decide +kernel
theorem dX8_take_12 : decode cX8_take 12 = .ok (.getfield 23, 3) := by decide +kernel
theorem dX8_take_15 : decode cX8_take 15 = .ok (.iload_n 2, 1) := by decide +kernel
theorem dX8_take_16 : decode cX8_take 16 = .ok (.invokevirtual 113, 3) := by decide +kernel
theorem dX8_take_19 : decode cX8_take 19 = .ok (.ifCond .ne 5, 3) := by decide +kernel
theorem dX8_take_22 : decode cX8_take 22 = .ok (.iconst (-1), 1) := by decide +kernel
theorem dX8_take_23 : decode cX8_take 23 = .ok (.ireturn, 1) := by decide +kernel
theorem dX8_take_24 : decode cX8_take 24 = .ok (.aload_n 0, 1) := by decide +kernel
theorem dX8_take_25 : decode cX8_take 25 = .ok (.getfield 31, 3) := by decide +kernel
theorem dX8_take_28 : decode cX8_take 28 = .ok (.iload_n 1, 1) := by decide +kernel
theorem dX8_take_29 : decode cX8_take 29 = .ok (.iload_n 2, 1) := by decide +kernel
theorem dX8_take_30 : decode cX8_take 30 = .ok (.invokevirtual 146, 3) := by decide +kernel
theorem dX8_take_33 : decode cX8_take 33 = .ok (.ifCond .ne 6, 3) := by decide +kernel
theorem dX8_take_36 : decode cX8_take 36 = .ok (.bipush (-2), 2) := by decide +kernel
theorem dX8_take_38 : decode cX8_take 38 = .ok (.ireturn, 1) := by decide +kernel
theorem dX8_take_39 : decode cX8_take 39 = .ok (.aload_n 0, 1) := by decide +kernel
theorem dX8_take_40 : decode cX8_take 40 = .ok (.getfield 40, 3) := by decide +kernel
theorem dX8_take_43 : decode cX8_take 43 = .ok (.aload_n 0, 1) := by decide +kernel
theorem dX8_take_44 : decode cX8_take 44 = .ok (.getfield 31, 3) := by decide +kernel
theorem dX8_take_47 : decode cX8_take 47 = .ok (.invokevirtual 150, 3) := by decide +kernel
theorem dX8_take_50 : decode cX8_take 50 = .ok (.aload_n 0, 1) := by decide +kernel
theorem dX8_take_51 : decode cX8_take 51 = .ok (.getfield 31, 3) := by decide +kernel
theorem dX8_take_54 : decode cX8_take 54 = .ok (.iload_n 1, 1) := by decide +kernel
theorem dX8_take_55 : decode cX8_take 55 = .ok (.iload_n 2, 1) := by decide +kernel
theorem dX8_take_56 : decode cX8_take 56 = .ok (.invokevirtual 154, 3) := by decide +kernel
theorem dX8_take_59 : decode cX8_take 59 = .ok (.ireturn, 1) := by decide +kernel
theorem dX8_layOut_0 : decode cX8_layOut 0 = .ok (.aload_n 0, 1) := by decide +kernel
theorem dX8_layOut_1 : decode cX8_layOut 1 = .ok (.getfield 31, 3) := by decide +kernel
theorem dX8_layOut_4 : decode cX8_layOut 4 = .ok (.iload_n 1, 1) := by decide +kernel
theorem dX8_layOut_5 : decode cX8_layOut 5 = .ok (.invokevirtual 137, 3) := by decide +kernel
theorem dX8_layOut_8 : decode cX8_layOut 8 = .ok (.ifCond .ne 5, 3) := by decide +kernel
theorem dX8_layOut_11 : decode cX8_layOut 11 = .ok (.iconst (-1), 1) := by decide +kernel
theorem dX8_layOut_12 : decode cX8_layOut 12 = .ok (.ireturn, 1) := by decide +kernel
theorem dX8_layOut_13 : decode cX8_layOut 13 = .ok (.aload_n 0, 1) := by decide +kernel
theorem dX8_layOut_14 : decode cX8_layOut 14 = .ok (.getfield 31, 3) := by decide +kernel
theorem dX8_layOut_17 : decode cX8_layOut 17 = .ok (.iload_n 1, 1) := by decide +kernel
theorem dX8_layOut_18 : decode cX8_layOut 18 = .ok (.invokevirtual 158, 3) := by decide +kernel
theorem dX8_layOut_21 : decode cX8_layOut 21 = .ok (.ifCond .ne 6, 3) := by decide +kernel
theorem dX8_layOut_24 : decode cX8_layOut 24 = .ok (.bipush (-2), 2) := by decide +kernel
theorem dX8_layOut_26 : decode cX8_layOut 26 = .ok (.ireturn, 1) := by decide +kernel
theorem dX8_layOut_27 : decode cX8_layOut 27 = .ok (.aload_n 0, 1) := by decide +kernel
theorem dX8_layOut_28 : decode cX8_layOut 28 = .ok (.getfield 40, 3) := by decide +kernel
theorem dX8_layOut_31 : decode cX8_layOut 31 = .ok (.aload_n 0, 1) := by decide +kernel
theorem dX8_layOut_32 : decode cX8_layOut 32 = .ok (.getfield 31, 3) := by decide +kernel
theorem dX8_layOut_35 : decode cX8_layOut 35 = .ok (.invokevirtual 150, 3) := by decide +kernel
theorem dX8_layOut_38 : decode cX8_layOut 38 = .ok (.aload_n 0, 1) := by decide +kernel
theorem dX8_layOut_39 : decode cX8_layOut 39 = .ok (.getfield 31, 3) := by decide +kernel
theorem dX8_layOut_42 : decode cX8_layOut 42 = .ok (.iload_n 1, 1) := by decide +kernel
theorem dX8_layOut_43 : decode cX8_layOut 43 = .ok (.invokevirtual 161, 3) := by decide +kernel
theorem dX8_layOut_46 : decode cX8_layOut 46 = .ok (.ireturn, 1) := by decide +kernel
theorem dX8_door_0 : decode cX8_door 0 = .ok (.aload_n 0, 1) := by decide +kernel
theorem dX8_door_1 : decode cX8_door 1 = .ok (.getfield 31, 3) := by decide +kernel
theorem dX8_door_4 : decode cX8_door 4 = .ok (.iload_n 1, 1) := by decide +kernel
theorem dX8_door_5 : decode cX8_door 5 = .ok (.invokevirtual 137, 3) := by decide +kernel
theorem dX8_door_8 : decode cX8_door 8 = .ok (.ifCond .ne 5, 3) := by decide +kernel
theorem dX8_door_11 : decode cX8_door 11 = .ok (.iconst (-1), 1) := by decide +kernel
theorem dX8_door_12 : decode cX8_door 12 = .ok (.ireturn, 1) := by decide +kernel
theorem dX8_door_13 : decode cX8_door 13 = .ok (.aload_n 0, 1) := by decide +kernel
theorem dX8_door_14 : decode cX8_door 14 = .ok (.getfield 31, 3) := by decide +kernel
theorem dX8_door_17 : decode cX8_door 17 = .ok (.iload_n 1, 1) := by decide +kernel
theorem dX8_door_18 : decode cX8_door 18 = .ok (.invokevirtual 164, 3) := by decide +kernel
theorem dX8_door_21 : decode cX8_door 21 = .ok (.ifCond .ne 6, 3) := by decide +kernel
theorem dX8_door_24 : decode cX8_door 24 = .ok (.bipush (-2), 2) := by decide +kernel
theorem dX8_door_26 : decode cX8_door 26 = .ok (.ireturn, 1) := by decide +kernel
theorem dX8_door_27 : decode cX8_door 27 = .ok (.aload_n 0, 1) := by decide +kernel
theorem dX8_door_28 : decode cX8_door 28 = .ok (.getfield 40, 3) := by decide +kernel
theorem dX8_door_31 : decode cX8_door 31 = .ok (.aload_n 0, 1) := by decide +kernel
theorem dX8_door_32 : decode cX8_door 32 = .ok (.getfield 31, 3) := by decide +kernel
theorem dX8_door_35 : decode cX8_door 35 = .ok (.invokevirtual 150, 3) := by decide +kernel
theorem dX8_door_38 : decode cX8_door 38 = .ok (.aload_n 0, 1) := by decide +kernel
theorem dX8_door_39 : decode cX8_door 39 = .ok (.getfield 31, 3) := by decide +kernel
theorem dX8_door_42 : decode cX8_door 42 = .ok (.iload_n 1, 1) := by decide +kernel
theorem dX8_door_43 : decode cX8_door 43 = .ok (.invokevirtual 167, 3) := by decide +kernel
theorem dX8_door_46 : decode cX8_door 46 = .ok (.ireturn, 1) := by decide +kernel
theorem dX8_pass_0 : decode cX8_pass 0 = .ok (.iload_n 1, 1) := by decide +kernel
theorem dX8_pass_1 : decode cX8_pass 1 = .ok (.iconst 1, 1) := by decide +kernel
theorem dX8_pass_2 : decode cX8_pass 2 = .ok (.if_icmp .lt 9, 3) := by decide +kernel
theorem dX8_pass_5 : decode cX8_pass 5 = .ok (.iload_n 1, 1) := by decide +kernel
theorem dX8_pass_6 : decode cX8_pass 6 = .ok (.bipush 40, 2) := by decide +kernel
theorem dX8_pass_8 : decode cX8_pass 8 = .ok (.if_icmp .le 5, 3) := by decide +kernel
theorem dX8_pass_11 : decode cX8_pass 11 = .ok (.iconst (-1), 1) := by decide +kernel
theorem dX8_pass_12 : decode cX8_pass 12 = .ok (.ireturn, 1) := by decide +kernel
theorem dX8_pass_13 : decode cX8_pass 13 = .ok (.aload_n 0, 1) := by decide +kernel
theorem dX8_pass_14 : decode cX8_pass 14 = .ok (.getfield 31, 3) := by decide +kernel
theorem dX8_pass_17 : decode cX8_pass 17 = .ok (.getfield 170, 3) := by decide +kernel
theorem dX8_pass_20 : decode cX8_pass 20 = .ok (.iload_n 1, 1) := by decide +kernel
theorem dX8_pass_21 : decode cX8_pass 21 = .ok (.iadd, 1) := by decide +kernel
theorem dX8_pass_22 : decode cX8_pass 22 = .ok (.sipush 999, 3) := by decide +kernel
theorem dX8_pass_25 : decode cX8_pass 25 = .ok (.if_icmp .le 6, 3) := by decide +kernel
theorem dX8_pass_28 : decode cX8_pass 28 = .ok (.bipush (-2), 2) := by decide +kernel
theorem dX8_pass_30 : decode cX8_pass 30 = .ok (.ireturn, 1) := by decide +kernel
theorem dX8_pass_31 : decode cX8_pass 31 = .ok (.aload_n 0, 1) := by decide +kernel
theorem dX8_pass_32 : decode cX8_pass 32 = .ok (.getfield 40, 3) := by decide +kernel
theorem dX8_pass_35 : decode cX8_pass 35 = .ok (.aload_n 0, 1) := by decide +kernel
theorem dX8_pass_36 : decode cX8_pass 36 = .ok (.getfield 31, 3) := by decide +kernel
theorem dX8_pass_39 : decode cX8_pass 39 = .ok (.invokevirtual 150, 3) := by decide +kernel
theorem dX8_pass_42 : decode cX8_pass 42 = .ok (.iconst 0, 1) := by decide +kernel
theorem dX8_pass_43 : decode cX8_pass 43 = .ok (.istore_n 2, 1) := by decide +kernel
theorem dX8_pass_44 : decode cX8_pass 44 = .ok (.iconst 0, 1) := by decide +kernel
theorem dX8_pass_45 : decode cX8_pass 45 = .ok (.istore_n 3, 1) := by decide +kernel
theorem dX8_pass_46 : decode cX8_pass 46 = .ok (.iload_n 3, 1) := by decide +kernel
theorem dX8_pass_47 : decode cX8_pass 47 = .ok (.iload_n 1, 1) := by decide +kernel
theorem dX8_pass_48 : decode cX8_pass 48 = .ok (.if_icmp .ge 19, 3) := by decide +kernel
theorem dX8_pass_51 : decode cX8_pass 51 = .ok (.iload_n 2, 1) := by decide +kernel
theorem dX8_pass_52 : decode cX8_pass 52 = .ok (.aload_n 0, 1) := by decide +kernel
theorem dX8_pass_53 : decode cX8_pass 53 = .ok (.getfield 31, 3) := by decide +kernel
theorem dX8_pass_56 : decode cX8_pass 56 = .ok (.invokevirtual 173, 3) := by decide +kernel
theorem dX8_pass_59 : decode cX8_pass 59 = .ok (.iadd, 1) := by decide +kernel
theorem dX8_pass_60 : decode cX8_pass 60 = .ok (.istore_n 2, 1) := by decide +kernel
theorem dX8_pass_61 : decode cX8_pass 61 = .ok (.iinc 3 1, 3) := by decide +kernel
theorem dX8_pass_64 : decode cX8_pass 64 = .ok (.goto (-18), 3) := by decide +kernel
theorem dX8_pass_67 : decode cX8_pass 67 = .ok (.iload_n 2, 1) := by decide +kernel
theorem dX8_pass_68 : decode cX8_pass 68 = .ok (.ireturn, 1) := by decide +kernel
theorem dX8_undo_0 : decode cX8_undo 0 = .ok (.aload_n 0, 1) := by decide +kernel
theorem dX8_undo_1 : decode cX8_undo 1 = .ok (.getfield 40, 3) := by decide +kernel
theorem dX8_undo_4 : decode cX8_undo 4 = .ok (.getfield 176, 3) := by decide +kernel
theorem dX8_undo_7 : decode cX8_undo 7 = .ok (.ifCond .ne 6, 3) := by decide +kernel
theorem dX8_undo_10 : decode cX8_undo 10 = .ok (.bipush (-2), 2) := by decide +kernel
theorem dX8_undo_12 : decode cX8_undo 12 = .ok (.ireturn, 1) := by decide +kernel
theorem dX8_undo_13 : decode cX8_undo 13 = .ok (.aload_n 0, 1) := by decide +kernel
theorem dX8_undo_14 : decode cX8_undo 14 = .ok (.getfield 40, 3) := by decide +kernel
theorem dX8_undo_17 : decode cX8_undo 17 = .ok (.aload_n 0, 1) := by decide +kernel
theorem dX8_undo_18 : decode cX8_undo 18 = .ok (.getfield 31, 3) := by decide +kernel
theorem dX8_undo_21 : decode cX8_undo 21 = .ok (.invokevirtual 177, 3) := by decide +kernel
theorem dX8_undo_24 : decode cX8_undo 24 = .ok (.aload_n 0, 1) := by decide +kernel
theorem dX8_undo_25 : decode cX8_undo 25 = .ok (.getfield 40, 3) := by decide +kernel
theorem dX8_undo_28 : decode cX8_undo 28 = .ok (.getfield 176, 3) := by decide +kernel
theorem dX8_undo_31 : decode cX8_undo 31 = .ok (.ireturn, 1) := by decide +kernel
theorem dX8_asTold_0 : decode cX8_asTold 0 = .ok (.iload_n 1, 1) := by decide +kernel
theorem dX8_asTold_1 : decode cX8_asTold 1 = .ok (.ifCond .lt 8, 3) := by decide +kernel
theorem dX8_asTold_4 : decode cX8_asTold 4 = .ok (.iload_n 1, 1) := by decide +kernel
theorem dX8_asTold_5 : decode cX8_asTold 5 = .ok (.iconst 1, 1) := by decide +kernel
theorem dX8_asTold_6 : decode cX8_asTold 6 = .ok (.if_icmp .le 5, 3) := by decide +kernel
theorem dX8_asTold_9 : decode cX8_asTold 9 = .ok (.iconst (-1), 1) := by decide +kernel
theorem dX8_asTold_10 : decode cX8_asTold 10 = .ok (.ireturn, 1) := by decide +kernel
theorem dX8_asTold_11 : decode cX8_asTold 11 = .ok (.aload_n 0, 1) := by decide +kernel
theorem dX8_asTold_12 : decode cX8_asTold 12 = .ok (.getfield 50, 3) := by decide +kernel
theorem dX8_asTold_15 : decode cX8_asTold 15 = .ok (.aload_n 0, 1) := by decide +kernel
theorem dX8_asTold_16 : decode cX8_asTold 16 = .ok (.getfield 31, 3) := by decide +kernel
theorem dX8_asTold_19 : decode cX8_asTold 19 = .ok (.invokevirtual 180, 3) := by decide +kernel
theorem dX8_asTold_22 : decode cX8_asTold 22 = .ok (.aload_n 0, 1) := by decide +kernel
theorem dX8_asTold_23 : decode cX8_asTold 23 = .ok (.getfield 50, 3) := by decide +kernel
theorem dX8_asTold_26 : decode cX8_asTold 26 = .ok (.getstatic 183, 3) := by decide +kernel
theorem dX8_asTold_29 : decode cX8_asTold 29 = .ok (.aload_n 0, 1) := by decide +kernel
theorem dX8_asTold_30 : decode cX8_asTold 30 = .ok (.getfield 50, 3) := by decide +kernel
theorem dX8_asTold_33 : decode cX8_asTold 33 = .ok (.invokevirtual 186, 3) := by decide +kernel
theorem dX8_asTold_36 : decode cX8_asTold 36 = .ok (.invokevirtual 189, 3) := by decide +kernel
theorem dX8_asTold_39 : decode cX8_asTold 39 = .ok (.iload_n 1, 1) := by decide +kernel
theorem dX8_asTold_40 : decode cX8_asTold 40 = .ok (.ifCond .ne 13, 3) := by decide +kernel
theorem dX8_asTold_43 : decode cX8_asTold 43 = .ok (.aload_n 0, 1) := by decide +kernel
theorem dX8_asTold_44 : decode cX8_asTold 44 = .ok (.getfield 50, 3) := by decide +kernel
theorem dX8_asTold_47 : decode cX8_asTold 47 = .ok (.getfield 193, 3) := by decide +kernel
theorem dX8_asTold_50 : decode cX8_asTold 50 = .ok (.goto 10, 3) := by decide +kernel
theorem dX8_asTold_53 : decode cX8_asTold 53 = .ok (.aload_n 0, 1) := by decide +kernel
theorem dX8_asTold_54 : decode cX8_asTold 54 = .ok (.getfield 50, 3) := by decide +kernel
theorem dX8_asTold_57 : decode cX8_asTold 57 = .ok (.getfield 196, 3) := by decide +kernel
theorem dX8_asTold_60 : decode cX8_asTold 60 = .ok (.ireturn, 1) := by decide +kernel
theorem dX8_best_0 : decode cX8_best 0 = .ok (.iload_n 1, 1) := by decide +kernel
theorem dX8_best_1 : decode cX8_best 1 = .ok (.bipush (-2), 2) := by decide +kernel
theorem dX8_best_3 : decode cX8_best 3 = .ok (.if_icmp .ge 5, 3) := by decide +kernel
theorem dX8_best_6 : decode cX8_best 6 = .ok (.iconst (-1), 1) := by decide +kernel
theorem dX8_best_7 : decode cX8_best 7 = .ok (.ireturn, 1) := by decide +kernel
theorem dX8_best_8 : decode cX8_best 8 = .ok (.iload_n 1, 1) := by decide +kernel
theorem dX8_best_9 : decode cX8_best 9 = .ok (.aload_n 0, 1) := by decide +kernel
theorem dX8_best_10 : decode cX8_best 10 = .ok (.getfield 23, 3) := by decide +kernel
theorem dX8_best_13 : decode cX8_best 13 = .ok (.getfield 103, 3) := by decide +kernel
theorem dX8_best_16 : decode cX8_best 16 = .ok (.if_icmp .lt 6, 3) := by decide +kernel
theorem dX8_best_19 : decode cX8_best 19 = .ok (.bipush (-4), 2) := by decide +kernel
theorem dX8_best_21 : decode cX8_best 21 = .ok (.ireturn, 1) := by decide +kernel
theorem dX8_best_22 : decode cX8_best 22 = .ok (.aload_n 0, 1) := by decide +kernel
theorem dX8_best_23 : decode cX8_best 23 = .ok (.getfield 59, 3) := by decide +kernel
theorem dX8_best_26 : decode cX8_best 26 = .ok (.aload_n 0, 1) := by decide +kernel
theorem dX8_best_27 : decode cX8_best 27 = .ok (.getfield 31, 3) := by decide +kernel
theorem dX8_best_30 : decode cX8_best 30 = .ok (.invokevirtual 199, 3) := by decide +kernel
theorem dX8_best_33 : decode cX8_best 33 = .ok (.iload_n 1, 1) := by decide +kernel
theorem dX8_best_34 : decode cX8_best 34 = .ok (.iconst (-1), 1) := by decide +kernel
theorem dX8_best_35 : decode cX8_best 35 = .ok (.if_icmp .eq 15, 3) := by decide +kernel
theorem dX8_best_38 : decode cX8_best 38 = .ok (.aload_n 0, 1) := by decide +kernel
theorem dX8_best_39 : decode cX8_best 39 = .ok (.getfield 59, 3) := by decide +kernel
theorem dX8_best_42 : decode cX8_best 42 = .ok (.getfield 202, 3) := by decide +kernel
theorem dX8_best_45 : decode cX8_best 45 = .ok (.bipush (-4), 2) := by decide +kernel
theorem dX8_best_47 : decode cX8_best 47 = .ok (.if_icmp .ne 11, 3) := by decide +kernel
theorem dX8_best_50 : decode cX8_best 50 = .ok (.aload_n 0, 1) := by decide +kernel
theorem dX8_best_51 : decode cX8_best 51 = .ok (.getfield 59, 3) := by decide +kernel
theorem dX8_best_54 : decode cX8_best 54 = .ok (.getfield 202, 3) := by decide +kernel
theorem dX8_best_57 : decode cX8_best 57 = .ok (.ireturn, 1) := by decide +kernel
theorem dX8_best_58 : decode cX8_best 58 = .ok (.iload_n 1, 1) := by decide +kernel
theorem dX8_best_59 : decode cX8_best 59 = .ok (.bipush (-2), 2) := by decide +kernel
theorem dX8_best_61 : decode cX8_best 61 = .ok (.if_icmp .ne 13, 3) := by decide +kernel
theorem dX8_best_64 : decode cX8_best 64 = .ok (.aload_n 0, 1) := by decide +kernel
theorem dX8_best_65 : decode cX8_best 65 = .ok (.getfield 59, 3) := by decide +kernel
theorem dX8_best_68 : decode cX8_best 68 = .ok (.getfield 203, 3) := by decide +kernel
theorem dX8_best_71 : decode cX8_best 71 = .ok (.goto 12, 3) := by decide +kernel
theorem dX8_best_74 : decode cX8_best 74 = .ok (.aload_n 0, 1) := by decide +kernel
theorem dX8_best_75 : decode cX8_best 75 = .ok (.getfield 59, 3) := by decide +kernel
theorem dX8_best_78 : decode cX8_best 78 = .ok (.getfield 204, 3) := by decide +kernel
theorem dX8_best_81 : decode cX8_best 81 = .ok (.iload_n 1, 1) := by decide +kernel
theorem dX8_best_82 : decode cX8_best 82 = .ok (.iaload, 1) := by decide +kernel
theorem dX8_best_83 : decode cX8_best 83 = .ok (.ireturn, 1) := by decide +kernel
theorem dX8_last_0 : decode cX8_last 0 = .ok (.aload_n 0, 1) := by decide +kernel
theorem dX8_last_1 : decode cX8_last 1 = .ok (.getfield 59, 3) := by decide +kernel
theorem dX8_last_4 : decode cX8_last 4 = .ok (.aload_n 0, 1) := by decide +kernel
theorem dX8_last_5 : decode cX8_last 5 = .ok (.getfield 31, 3) := by decide +kernel
theorem dX8_last_8 : decode cX8_last 8 = .ok (.invokevirtual 207, 3) := by decide +kernel
theorem dX8_last_11 : decode cX8_last 11 = .ok (.ireturn, 1) := by decide +kernel
theorem dX8_pays_0 : decode cX8_pays 0 = .ok (.aload_n 0, 1) := by decide +kernel
theorem dX8_pays_1 : decode cX8_pays 1 = .ok (.getfield 31, 3) := by decide +kernel
theorem dX8_pays_4 : decode cX8_pays 4 = .ok (.invokevirtual 211, 3) := by decide +kernel
theorem dX8_pays_7 : decode cX8_pays 7 = .ok (.istore_n 1, 1) := by decide +kernel
theorem dX8_pays_8 : decode cX8_pays 8 = .ok (.aload_n 0, 1) := by decide +kernel
theorem dX8_pays_9 : decode cX8_pays 9 = .ok (.getfield 31, 3) := by decide +kernel
theorem dX8_pays_12 : decode cX8_pays 12 = .ok (.iload_n 1, 1) := by decide +kernel
theorem dX8_pays_13 : decode cX8_pays 13 = .ok (.invokevirtual 158, 3) := by decide +kernel
theorem dX8_pays_16 : decode cX8_pays 16 = .ok (.ifCond .ne 6, 3) := by decide +kernel
theorem dX8_pays_19 : decode cX8_pays 19 = .ok (.bipush (-4), 2) := by decide +kernel
theorem dX8_pays_21 : decode cX8_pays 21 = .ok (.ireturn, 1) := by decide +kernel
theorem dX8_pays_22 : decode cX8_pays 22 = .ok (.aload_n 0, 1) := by decide +kernel
theorem dX8_pays_23 : decode cX8_pays 23 = .ok (.getfield 50, 3) := by decide +kernel
theorem dX8_pays_26 : decode cX8_pays 26 = .ok (.aload_n 0, 1) := by decide +kernel
theorem dX8_pays_27 : decode cX8_pays 27 = .ok (.getfield 31, 3) := by decide +kernel
theorem dX8_pays_30 : decode cX8_pays 30 = .ok (.invokevirtual 180, 3) := by decide +kernel
theorem dX8_pays_33 : decode cX8_pays 33 = .ok (.aload_n 0, 1) := by decide +kernel
theorem dX8_pays_34 : decode cX8_pays 34 = .ok (.getfield 50, 3) := by decide +kernel
theorem dX8_pays_37 : decode cX8_pays 37 = .ok (.getstatic 183, 3) := by decide +kernel
theorem dX8_pays_40 : decode cX8_pays 40 = .ok (.aload_n 0, 1) := by decide +kernel
theorem dX8_pays_41 : decode cX8_pays 41 = .ok (.getfield 50, 3) := by decide +kernel
theorem dX8_pays_44 : decode cX8_pays 44 = .ok (.invokevirtual 186, 3) := by decide +kernel
theorem dX8_pays_47 : decode cX8_pays 47 = .ok (.invokevirtual 189, 3) := by decide +kernel
theorem dX8_pays_50 : decode cX8_pays 50 = .ok (.aload_n 0, 1) := by decide +kernel
theorem dX8_pays_51 : decode cX8_pays 51 = .ok (.getfield 50, 3) := by decide +kernel
theorem dX8_pays_54 : decode cX8_pays 54 = .ok (.getfield 193, 3) := by decide +kernel
theorem dX8_pays_57 : decode cX8_pays 57 = .ok (.istore_n 2, 1) := by decide +kernel
theorem dX8_pays_58 : decode cX8_pays 58 = .ok (.aload_n 0, 1) := by decide +kernel
theorem dX8_pays_59 : decode cX8_pays 59 = .ok (.getfield 50, 3) := by decide +kernel
theorem dX8_pays_62 : decode cX8_pays 62 = .ok (.aload_n 0, 1) := by decide +kernel
theorem dX8_pays_63 : decode cX8_pays 63 = .ok (.getfield 31, 3) := by decide +kernel
theorem dX8_pays_66 : decode cX8_pays 66 = .ok (.invokevirtual 180, 3) := by decide +kernel
theorem dX8_pays_69 : decode cX8_pays 69 = .ok (.aload_n 0, 1) := by decide +kernel
theorem dX8_pays_70 : decode cX8_pays 70 = .ok (.getfield 50, 3) := by decide +kernel
theorem dX8_pays_73 : decode cX8_pays 73 = .ok (.getfield 214, 3) := by decide +kernel
theorem dX8_pays_76 : decode cX8_pays 76 = .ok (.iload_n 1, 1) := by decide +kernel
theorem dX8_pays_77 : decode cX8_pays 77 = .ok (.invokevirtual 161, 3) := by decide +kernel
theorem dX8_pays_80 : decode cX8_pays 80 = .ok (.pop, 1) := by decide +kernel
theorem dX8_pays_81 : decode cX8_pays 81 = .ok (.aload_n 0, 1) := by decide +kernel
theorem dX8_pays_82 : decode cX8_pays 82 = .ok (.getfield 50, 3) := by decide +kernel
theorem dX8_pays_85 : decode cX8_pays 85 = .ok (.getstatic 183, 3) := by decide +kernel
theorem dX8_pays_88 : decode cX8_pays 88 = .ok (.aload_n 0, 1) := by decide +kernel
theorem dX8_pays_89 : decode cX8_pays 89 = .ok (.getfield 50, 3) := by decide +kernel
theorem dX8_pays_92 : decode cX8_pays 92 = .ok (.invokevirtual 186, 3) := by decide +kernel
theorem dX8_pays_95 : decode cX8_pays 95 = .ok (.invokevirtual 189, 3) := by decide +kernel
theorem dX8_pays_98 : decode cX8_pays 98 = .ok (.iload_n 2, 1) := by decide +kernel
theorem dX8_pays_99 : decode cX8_pays 99 = .ok (.bipush (-4), 2) := by decide +kernel
theorem dX8_pays_101 : decode cX8_pays 101 = .ok (.if_icmp .eq 15, 3) := by decide +kernel
theorem dX8_pays_104 : decode cX8_pays 104 = .ok (.aload_n 0, 1) := by decide +kernel
theorem dX8_pays_105 : decode cX8_pays 105 = .ok (.getfield 50, 3) := by decide +kernel
theorem dX8_pays_108 : decode cX8_pays 108 = .ok (.getfield 193, 3) := by decide +kernel
theorem dX8_pays_111 : decode cX8_pays 111 = .ok (.bipush (-4), 2) := by decide +kernel
theorem dX8_pays_113 : decode cX8_pays 113 = .ok (.if_icmp .ne 6, 3) := by decide +kernel
theorem dX8_pays_116 : decode cX8_pays 116 = .ok (.bipush (-4), 2) := by decide +kernel
theorem dX8_pays_118 : decode cX8_pays 118 = .ok (.ireturn, 1) := by decide +kernel
theorem dX8_pays_119 : decode cX8_pays 119 = .ok (.iload_n 2, 1) := by decide +kernel
theorem dX8_pays_120 : decode cX8_pays 120 = .ok (.aload_n 0, 1) := by decide +kernel
theorem dX8_pays_121 : decode cX8_pays 121 = .ok (.getfield 50, 3) := by decide +kernel
theorem dX8_pays_124 : decode cX8_pays 124 = .ok (.getfield 193, 3) := by decide +kernel
theorem dX8_pays_127 : decode cX8_pays 127 = .ok (.isub, 1) := by decide +kernel
theorem dX8_pays_128 : decode cX8_pays 128 = .ok (.bipush 100, 2) := by decide +kernel
theorem dX8_pays_130 : decode cX8_pays 130 = .ok (.iadd, 1) := by decide +kernel
theorem dX8_pays_131 : decode cX8_pays 131 = .ok (.ireturn, 1) := by decide +kernel
theorem dX8_women_0 : decode cX8_women 0 = .ok (.iload_n 1, 1) := by decide +kernel
theorem dX8_women_1 : decode cX8_women 1 = .ok (.iconst 1, 1) := by decide +kernel
theorem dX8_women_2 : decode cX8_women 2 = .ok (.if_icmp .lt 8, 3) := by decide +kernel
theorem dX8_women_5 : decode cX8_women 5 = .ok (.iload_n 1, 1) := by decide +kernel
theorem dX8_women_6 : decode cX8_women 6 = .ok (.iconst 3, 1) := by decide +kernel
theorem dX8_women_7 : decode cX8_women 7 = .ok (.if_icmp .le 5, 3) := by decide +kernel
theorem dX8_women_10 : decode cX8_women 10 = .ok (.iconst (-1), 1) := by decide +kernel
theorem dX8_women_11 : decode cX8_women 11 = .ok (.ireturn, 1) := by decide +kernel
theorem dX8_women_12 : decode cX8_women 12 = .ok (.aload_n 0, 1) := by decide +kernel
theorem dX8_women_13 : decode cX8_women 13 = .ok (.getfield 50, 3) := by decide +kernel
theorem dX8_women_16 : decode cX8_women 16 = .ok (.getfield 214, 3) := by decide +kernel
theorem dX8_women_19 : decode cX8_women 19 = .ok (.iload_n 1, 1) := by decide +kernel
theorem dX8_women_20 : decode cX8_women 20 = .ok (.invokevirtual 97, 3) := by decide +kernel
theorem dX8_women_23 : decode cX8_women 23 = .ok (.aload_n 0, 1) := by decide +kernel
theorem dX8_women_24 : decode cX8_women 24 = .ok (.getfield 50, 3) := by decide +kernel
theorem dX8_women_27 : decode cX8_women 27 = .ok (.getstatic 183, 3) := by decide +kernel
theorem dX8_women_30 : decode cX8_women 30 = .ok (.aload_n 0, 1) := by decide +kernel
theorem dX8_women_31 : decode cX8_women 31 = .ok (.getfield 50, 3) := by decide +kernel
theorem dX8_women_34 : decode cX8_women 34 = .ok (.invokevirtual 186, 3) := by decide +kernel
theorem dX8_women_37 : decode cX8_women 37 = .ok (.invokevirtual 189, 3) := by decide +kernel
theorem dX8_women_40 : decode cX8_women 40 = .ok (.aload_n 0, 1) := by decide +kernel
theorem dX8_women_41 : decode cX8_women 41 = .ok (.getfield 50, 3) := by decide +kernel
theorem dX8_women_44 : decode cX8_women 44 = .ok (.getfield 193, 3) := by decide +kernel
theorem dX8_women_47 : decode cX8_women 47 = .ok (.ireturn, 1) := by decide +kernel
theorem dX8_seen_0 : decode cX8_seen 0 = .ok (.aload_n 0, 1) := by decide +kernel
theorem dX8_seen_1 : decode cX8_seen 1 = .ok (.getfield 23, 3) := by decide +kernel
theorem dX8_seen_4 : decode cX8_seen 4 = .ok (.iload_n 1, 1) := by decide +kernel
theorem dX8_seen_5 : decode cX8_seen 5 = .ok (.invokevirtual 113, 3) := by decide +kernel
theorem dX8_seen_8 : decode cX8_seen 8 = .ok (.ifCond .eq 23, 3) := by decide +kernel
theorem dX8_seen_11 : decode cX8_seen 11 = .ok (.iload_n 2, 1) := by decide +kernel
theorem dX8_seen_12 : decode cX8_seen 12 = .ok (.iconst 1, 1) := by decide +kernel
theorem dX8_seen_13 : decode cX8_seen 13 = .ok (.if_icmp .lt 18, 3) := by decide +kernel
theorem dX8_seen_16 : decode cX8_seen 16 = .ok (.iload_n 2, 1) := by decide +kernel
theorem dX8_seen_17 : decode cX8_seen 17 = .ok (.bipush 20, 2) := by decide +kernel
theorem dX8_seen_19 : decode cX8_seen 19 = .ok (.if_icmp .gt 12, 3) := by decide +kernel
theorem dX8_seen_22 : decode cX8_seen 22 = .ok (.iload_n 3, 1) := by decide +kernel
theorem dX8_seen_23 : decode cX8_seen 23 = .ok (.ifCond .lt 8, 3) := by decide +kernel
theorem dX8_seen_26 : decode cX8_seen 26 = .ok (.iload_n 3, 1) := by decide +kernel
theorem dX8_seen_27 : decode cX8_seen 27 = .ok (.iconst 1, 1) := by decide +kernel
theorem dX8_seen_28 : decode cX8_seen 28 = .ok (.if_icmp .le 5, 3) := by decide +kernel
theorem dX8_seen_31 : decode cX8_seen 31 = .ok (.iconst (-1), 1) := by decide +kernel
theorem dX8_seen_32 : decode cX8_seen 32 = .ok (.ireturn, 1) := by decide +kernel
theorem dX8_seen_33 : decode cX8_seen 33 = .ok (.aload_n 0, 1) := by decide +kernel
theorem dX8_seen_34 : decode cX8_seen 34 = .ok (.getfield 66, 3) := by decide +kernel
theorem dX8_seen_37 : decode cX8_seen 37 = .ok (.iload_n 1, 1) := by decide +kernel
theorem dX8_seen_38 : decode cX8_seen 38 = .ok (.iload_n 2, 1) := by decide +kernel
theorem dX8_seen_39 : decode cX8_seen 39 = .ok (.iload_n 3, 1) := by decide +kernel
theorem dX8_seen_40 : decode cX8_seen 40 = .ok (.iconst 1, 1) := by decide +kernel
theorem dX8_seen_41 : decode cX8_seen 41 = .ok (.if_icmp .ne 7, 3) := by decide +kernel
theorem dX8_seen_44 : decode cX8_seen 44 = .ok (.iconst 1, 1) := by decide +kernel
theorem dX8_seen_45 : decode cX8_seen 45 = .ok (.goto 4, 3) := by decide +kernel
theorem dX8_seen_48 : decode cX8_seen 48 = .ok (.iconst 0, 1) := by decide +kernel
theorem dX8_seen_49 : decode cX8_seen 49 = .ok (.invokevirtual 217, 3) := by decide +kernel
theorem dX8_seen_52 : decode cX8_seen 52 = .ok (.ifCond .eq 13, 3) := by decide +kernel
theorem dX8_seen_55 : decode cX8_seen 55 = .ok (.aload_n 0, 1) := by decide +kernel
theorem dX8_seen_56 : decode cX8_seen 56 = .ok (.getfield 66, 3) := by decide +kernel
theorem dX8_seen_59 : decode cX8_seen 59 = .ok (.getfield 110, 3) := by decide +kernel
theorem dX8_seen_62 : decode cX8_seen 62 = .ok (.goto 5, 3) := by decide +kernel
theorem dX8_seen_65 : decode cX8_seen 65 = .ok (.bipush (-3), 2) := by decide +kernel
theorem dX8_seen_67 : decode cX8_seen 67 = .ok (.ireturn, 1) := by decide +kernel
theorem dX8_forget_0 : decode cX8_forget 0 = .ok (.aload_n 0, 1) := by decide +kernel
theorem dX8_forget_1 : decode cX8_forget 1 = .ok (.getfield 66, 3) := by decide +kernel
theorem dX8_forget_4 : decode cX8_forget 4 = .ok (.getfield 110, 3) := by decide +kernel
theorem dX8_forget_7 : decode cX8_forget 7 = .ok (.istore_n 1, 1) := by decide +kernel
theorem dX8_forget_8 : decode cX8_forget 8 = .ok (.aload_n 0, 1) := by decide +kernel
theorem dX8_forget_9 : decode cX8_forget 9 = .ok (.getfield 66, 3) := by decide +kernel
theorem dX8_forget_12 : decode cX8_forget 12 = .ok (.iconst 0, 1) := by decide +kernel
theorem dX8_forget_13 : decode cX8_forget 13 = .ok (.putfield 110, 3) := by decide +kernel
theorem dX8_forget_16 : decode cX8_forget 16 = .ok (.iload_n 1, 1) := by decide +kernel
theorem dX8_forget_17 : decode cX8_forget 17 = .ok (.ireturn, 1) := by decide +kernel
theorem dX8_kinds_0 : decode cX8_kinds 0 = .ok (.aload_n 0, 1) := by decide +kernel
theorem dX8_kinds_1 : decode cX8_kinds 1 = .ok (.getfield 23, 3) := by decide +kernel
theorem dX8_kinds_4 : decode cX8_kinds 4 = .ok (.iload_n 1, 1) := by decide +kernel
theorem dX8_kinds_5 : decode cX8_kinds 5 = .ok (.invokevirtual 113, 3) := by decide +kernel
theorem dX8_kinds_8 : decode cX8_kinds 8 = .ok (.ifCond .ne 5, 3) := by decide +kernel
theorem dX8_kinds_11 : decode cX8_kinds 11 = .ok (.iconst (-1), 1) := by decide +kernel
theorem dX8_kinds_12 : decode cX8_kinds 12 = .ok (.ireturn, 1) := by decide +kernel
theorem dX8_kinds_13 : decode cX8_kinds 13 = .ok (.iconst 0, 1) := by decide +kernel
theorem dX8_kinds_14 : decode cX8_kinds 14 = .ok (.istore_n 2, 1) := by decide +kernel
theorem dX8_kinds_15 : decode cX8_kinds 15 = .ok (.iconst 0, 1) := by decide +kernel
theorem dX8_kinds_16 : decode cX8_kinds 16 = .ok (.istore_n 3, 1) := by decide +kernel
theorem dX8_kinds_17 : decode cX8_kinds 17 = .ok (.iload_n 3, 1) := by decide +kernel
theorem dX8_kinds_18 : decode cX8_kinds 18 = .ok (.iconst 4, 1) := by decide +kernel
theorem dX8_kinds_19 : decode cX8_kinds 19 = .ok (.if_icmp .ge 36, 3) := by decide +kernel
theorem dX8_kinds_22 : decode cX8_kinds 22 = .ok (.aload_n 0, 1) := by decide +kernel
theorem dX8_kinds_23 : decode cX8_kinds 23 = .ok (.getfield 66, 3) := by decide +kernel
theorem dX8_kinds_26 : decode cX8_kinds 26 = .ok (.iload_n 1, 1) := by decide +kernel
theorem dX8_kinds_27 : decode cX8_kinds 27 = .ok (.iload_n 3, 1) := by decide +kernel
theorem dX8_kinds_28 : decode cX8_kinds 28 = .ok (.aload_n 0, 1) := by decide +kernel
theorem dX8_kinds_29 : decode cX8_kinds 29 = .ok (.getfield 23, 3) := by decide +kernel
theorem dX8_kinds_32 : decode cX8_kinds 32 = .ok (.getfield 220, 3) := by decide +kernel
theorem dX8_kinds_35 : decode cX8_kinds 35 = .ok (.iload_n 1, 1) := by decide +kernel
theorem dX8_kinds_36 : decode cX8_kinds 36 = .ok (.iaload, 1) := by decide +kernel
theorem dX8_kinds_37 : decode cX8_kinds 37 = .ok (.invokevirtual 223, 3) := by decide +kernel
theorem dX8_kinds_40 : decode cX8_kinds 40 = .ok (.ifCond .eq 9, 3) := by decide +kernel
theorem dX8_kinds_43 : decode cX8_kinds 43 = .ok (.iload_n 2, 1) := by decide +kernel
theorem dX8_kinds_44 : decode cX8_kinds 44 = .ok (.iconst 1, 1) := by decide +kernel
theorem dX8_kinds_45 : decode cX8_kinds 45 = .ok (.iload_n 3, 1) := by decide +kernel
theorem dX8_kinds_46 : decode cX8_kinds 46 = .ok (.ishl, 1) := by decide +kernel
theorem dX8_kinds_47 : decode cX8_kinds 47 = .ok (.ior, 1) := by decide +kernel
theorem dX8_kinds_48 : decode cX8_kinds 48 = .ok (.istore_n 2, 1) := by decide +kernel
theorem dX8_kinds_49 : decode cX8_kinds 49 = .ok (.iinc 3 1, 3) := by decide +kernel
theorem dX8_kinds_52 : decode cX8_kinds 52 = .ok (.goto (-35), 3) := by decide +kernel
theorem dX8_kinds_55 : decode cX8_kinds 55 = .ok (.iload_n 2, 1) := by decide +kernel
theorem dX8_kinds_56 : decode cX8_kinds 56 = .ok (.ireturn, 1) := by decide +kernel
theorem dX8_takes_0 : decode cX8_takes 0 = .ok (.aload_n 0, 1) := by decide +kernel
theorem dX8_takes_1 : decode cX8_takes 1 = .ok (.getfield 23, 3) := by decide +kernel
theorem dX8_takes_4 : decode cX8_takes 4 = .ok (.iload_n 1, 1) := by decide +kernel
theorem dX8_takes_5 : decode cX8_takes 5 = .ok (.invokevirtual 113, 3) := by decide +kernel
theorem dX8_takes_8 : decode cX8_takes 8 = .ok (.ifCond .eq 12, 3) := by decide +kernel
theorem dX8_takes_11 : decode cX8_takes 11 = .ok (.iload_n 2, 1) := by decide +kernel
theorem dX8_takes_12 : decode cX8_takes 12 = .ok (.ifCond .lt 8, 3) := by decide +kernel
theorem dX8_takes_15 : decode cX8_takes 15 = .ok (.iload_n 2, 1) := by decide +kernel
theorem dX8_takes_16 : decode cX8_takes 16 = .ok (.iconst 1, 1) := by decide +kernel
theorem dX8_takes_17 : decode cX8_takes 17 = .ok (.if_icmp .le 5, 3) := by decide +kernel
theorem dX8_takes_20 : decode cX8_takes 20 = .ok (.iconst (-1), 1) := by decide +kernel
theorem dX8_takes_21 : decode cX8_takes 21 = .ok (.ireturn, 1) := by decide +kernel
theorem dX8_takes_22 : decode cX8_takes 22 = .ok (.iconst 0, 1) := by decide +kernel
theorem dX8_takes_23 : decode cX8_takes 23 = .ok (.istore_n 3, 1) := by decide +kernel
theorem dX8_takes_24 : decode cX8_takes 24 = .ok (.bipush (-4), 2) := by decide +kernel
theorem dX8_takes_26 : decode cX8_takes 26 = .ok (.istore 4, 2) := by decide +kernel
theorem dX8_takes_28 : decode cX8_takes 28 = .ok (.bipush 12, 2) := by decide +kernel
theorem dX8_takes_30 : decode cX8_takes 30 = .ok (.istore 5, 2) := by decide +kernel
theorem dX8_takes_32 : decode cX8_takes 32 = .ok (.iload 5, 2) := by decide +kernel
theorem dX8_takes_34 : decode cX8_takes 34 = .ok (.iconst 1, 1) := by decide +kernel
theorem dX8_takes_35 : decode cX8_takes 35 = .ok (.if_icmp .lt 38, 3) := by decide +kernel
theorem dX8_takes_38 : decode cX8_takes 38 = .ok (.aload_n 0, 1) := by decide +kernel
theorem dX8_takes_39 : decode cX8_takes 39 = .ok (.getfield 66, 3) := by decide +kernel
theorem dX8_takes_42 : decode cX8_takes 42 = .ok (.iload_n 1, 1) := by decide +kernel
theorem dX8_takes_43 : decode cX8_takes 43 = .ok (.aload_n 0, 1) := by decide +kernel
theorem dX8_takes_44 : decode cX8_takes 44 = .ok (.getfield 23, 3) := by decide +kernel
theorem dX8_takes_47 : decode cX8_takes 47 = .ok (.getfield 117, 3) := by decide +kernel
theorem dX8_takes_50 : decode cX8_takes 50 = .ok (.iload_n 1, 1) := by decide +kernel
theorem dX8_takes_51 : decode cX8_takes 51 = .ok (.iaload, 1) := by decide +kernel
theorem dX8_takes_52 : decode cX8_takes 52 = .ok (.iload 5, 2) := by decide +kernel
theorem dX8_takes_54 : decode cX8_takes 54 = .ok (.invokevirtual 223, 3) := by decide +kernel
theorem dX8_takes_57 : decode cX8_takes 57 = .ok (.ifCond .eq 10, 3) := by decide +kernel
theorem dX8_takes_60 : decode cX8_takes 60 = .ok (.iinc 3 1, 3) := by decide +kernel
theorem dX8_takes_63 : decode cX8_takes 63 = .ok (.iload 5, 2) := by decide +kernel
theorem dX8_takes_65 : decode cX8_takes 65 = .ok (.istore 4, 2) := by decide +kernel
theorem dX8_takes_67 : decode cX8_takes 67 = .ok (.iinc 5 (-1), 3) := by decide +kernel
theorem dX8_takes_70 : decode cX8_takes 70 = .ok (.goto (-38), 3) := by decide +kernel
theorem dX8_takes_73 : decode cX8_takes 73 = .ok (.iload_n 2, 1) := by decide +kernel
theorem dX8_takes_74 : decode cX8_takes 74 = .ok (.ifCond .ne 7, 3) := by decide +kernel
theorem dX8_takes_77 : decode cX8_takes 77 = .ok (.iload_n 3, 1) := by decide +kernel
theorem dX8_takes_78 : decode cX8_takes 78 = .ok (.goto 5, 3) := by decide +kernel
theorem dX8_takes_81 : decode cX8_takes 81 = .ok (.iload 4, 2) := by decide +kernel
theorem dX8_takes_83 : decode cX8_takes 83 = .ok (.ireturn, 1) := by decide +kernel
theorem dX8_must_0 : decode cX8_must 0 = .ok (.iload_n 1, 1) := by decide +kernel
theorem dX8_must_1 : decode cX8_must 1 = .ok (.ifCond .lt 28, 3) := by decide +kernel
theorem dX8_must_4 : decode cX8_must 4 = .ok (.iload_n 1, 1) := by decide +kernel
theorem dX8_must_5 : decode cX8_must 5 = .ok (.bipush 6, 2) := by decide +kernel
theorem dX8_must_7 : decode cX8_must 7 = .ok (.if_icmp .gt 22, 3) := by decide +kernel
theorem dX8_must_10 : decode cX8_must 10 = .ok (.iload_n 2, 1) := by decide +kernel
theorem dX8_must_11 : decode cX8_must 11 = .ok (.ifCond .lt 18, 3) := by decide +kernel
theorem dX8_must_14 : decode cX8_must 14 = .ok (.iload_n 2, 1) := by decide +kernel
theorem dX8_must_15 : decode cX8_must 15 = .ok (.bipush 10, 2) := by decide +kernel
theorem dX8_must_17 : decode cX8_must 17 = .ok (.if_icmp .gt 12, 3) := by decide +kernel
theorem dX8_must_20 : decode cX8_must 20 = .ok (.iload_n 3, 1) := by decide +kernel
theorem dX8_must_21 : decode cX8_must 21 = .ok (.ifCond .lt 8, 3) := by decide +kernel
theorem dX8_must_24 : decode cX8_must 24 = .ok (.iload_n 3, 1) := by decide +kernel
theorem dX8_must_25 : decode cX8_must 25 = .ok (.iconst 1, 1) := by decide +kernel
theorem dX8_must_26 : decode cX8_must 26 = .ok (.if_icmp .le 5, 3) := by decide +kernel
theorem dX8_must_29 : decode cX8_must 29 = .ok (.iconst (-1), 1) := by decide +kernel
theorem dX8_must_30 : decode cX8_must 30 = .ok (.ireturn, 1) := by decide +kernel
theorem dX8_must_31 : decode cX8_must 31 = .ok (.aload_n 0, 1) := by decide +kernel
theorem dX8_must_32 : decode cX8_must 32 = .ok (.getfield 31, 3) := by decide +kernel
theorem dX8_must_35 : decode cX8_must 35 = .ok (.iconst 2, 1) := by decide +kernel
theorem dX8_must_36 : decode cX8_must 36 = .ok (.invokevirtual 227, 3) := by decide +kernel
theorem dX8_must_39 : decode cX8_must 39 = .ok (.istore 4, 2) := by decide +kernel
theorem dX8_must_41 : decode cX8_must 41 = .ok (.iload 4, 2) := by decide +kernel
theorem dX8_must_43 : decode cX8_must 43 = .ok (.iload_n 1, 1) := by decide +kernel
theorem dX8_must_44 : decode cX8_must 44 = .ok (.iload_n 2, 1) := by decide +kernel
theorem dX8_must_45 : decode cX8_must 45 = .ok (.invokestatic 230, 3) := by decide +kernel
theorem dX8_must_48 : decode cX8_must 48 = .ok (.istore 5, 2) := by decide +kernel
theorem dX8_must_50 : decode cX8_must 50 = .ok (.bipush 10, 2) := by decide +kernel
theorem dX8_must_52 : decode cX8_must 52 = .ok (.iload 4, 2) := by decide +kernel
theorem dX8_must_54 : decode cX8_must 54 = .ok (.invokestatic 236, 3) := by decide +kernel
theorem dX8_must_57 : decode cX8_must 57 = .ok (.istore 6, 2) := by decide +kernel
theorem dX8_must_59 : decode cX8_must 59 = .ok (.iload 5, 2) := by decide +kernel
theorem dX8_must_61 : decode cX8_must 61 = .ok (.iload 6, 2) := by decide +kernel
theorem dX8_must_63 : decode cX8_must 63 = .ok (.invokestatic 239, 3) := by decide +kernel
theorem dX8_must_66 : decode cX8_must 66 = .ok (.istore 7, 2) := by decide +kernel
theorem dX8_must_68 : decode cX8_must 68 = .ok (.iload 7, 2) := by decide +kernel
theorem dX8_must_70 : decode cX8_must 70 = .ok (.ifCond .ne 6, 3) := by decide +kernel
theorem dX8_must_73 : decode cX8_must 73 = .ok (.bipush (-4), 2) := by decide +kernel
theorem dX8_must_75 : decode cX8_must 75 = .ok (.ireturn, 1) := by decide +kernel
theorem dX8_must_76 : decode cX8_must 76 = .ok (.iload_n 3, 1) := by decide +kernel
theorem dX8_must_77 : decode cX8_must 77 = .ok (.ifCond .ne 8, 3) := by decide +kernel
theorem dX8_must_80 : decode cX8_must 80 = .ok (.iload 5, 2) := by decide +kernel
theorem dX8_must_82 : decode cX8_must 82 = .ok (.goto 5, 3) := by decide +kernel
theorem dX8_must_85 : decode cX8_must 85 = .ok (.iload 6, 2) := by decide +kernel
theorem dX8_must_87 : decode cX8_must 87 = .ok (.iload 7, 2) := by decide +kernel
theorem dX8_must_89 : decode cX8_must 89 = .ok (.idiv, 1) := by decide +kernel
theorem dX8_must_90 : decode cX8_must 90 = .ok (.ireturn, 1) := by decide +kernel
theorem dX8_morning_0 : decode cX8_morning 0 = .ok (.iload_n 1, 1) := by decide +kernel
theorem dX8_morning_1 : decode cX8_morning 1 = .ok (.ifCond .lt 30, 3) := by decide +kernel
theorem dX8_morning_4 : decode cX8_morning 4 = .ok (.iload_n 1, 1) := by decide +kernel
theorem dX8_morning_5 : decode cX8_morning 5 = .ok (.sipush 9999, 3) := by decide +kernel
theorem dX8_morning_8 : decode cX8_morning 8 = .ok (.if_icmp .gt 23, 3) := by decide +kernel
theorem dX8_morning_11 : decode cX8_morning 11 = .ok (.iload_n 2, 1) := by decide +kernel
theorem dX8_morning_12 : decode cX8_morning 12 = .ok (.iconst 1, 1) := by decide +kernel
theorem dX8_morning_13 : decode cX8_morning 13 = .ok (.if_icmp .lt 18, 3) := by decide +kernel
theorem dX8_morning_16 : decode cX8_morning 16 = .ok (.iload_n 2, 1) := by decide +kernel
theorem dX8_morning_17 : decode cX8_morning 17 = .ok (.bipush 60, 2) := by decide +kernel
theorem dX8_morning_19 : decode cX8_morning 19 = .ok (.if_icmp .gt 12, 3) := by decide +kernel
theorem dX8_morning_22 : decode cX8_morning 22 = .ok (.iload_n 3, 1) := by decide +kernel
theorem dX8_morning_23 : decode cX8_morning 23 = .ok (.ifCond .lt 8, 3) := by decide +kernel
theorem dX8_morning_26 : decode cX8_morning 26 = .ok (.iload_n 3, 1) := by decide +kernel
theorem dX8_morning_27 : decode cX8_morning 27 = .ok (.iconst 1, 1) := by decide +kernel
theorem dX8_morning_28 : decode cX8_morning 28 = .ok (.if_icmp .le 5, 3) := by decide +kernel
theorem dX8_morning_31 : decode cX8_morning 31 = .ok (.iconst (-1), 1) := by decide +kernel
theorem dX8_morning_32 : decode cX8_morning 32 = .ok (.ireturn, 1) := by decide +kernel
theorem dX8_morning_33 : decode cX8_morning 33 = .ok (.aload_n 0, 1) := by decide +kernel
theorem dX8_morning_34 : decode cX8_morning 34 = .ok (.getfield 50, 3) := by decide +kernel
theorem dX8_morning_37 : decode cX8_morning 37 = .ok (.aload_n 0, 1) := by decide +kernel
theorem dX8_morning_38 : decode cX8_morning 38 = .ok (.getfield 31, 3) := by decide +kernel
theorem dX8_morning_41 : decode cX8_morning 41 = .ok (.invokevirtual 180, 3) := by decide +kernel
theorem dX8_morning_44 : decode cX8_morning 44 = .ok (.aload_n 0, 1) := by decide +kernel
theorem dX8_morning_45 : decode cX8_morning 45 = .ok (.getfield 50, 3) := by decide +kernel
theorem dX8_morning_48 : decode cX8_morning 48 = .ok (.iload_n 1, 1) := by decide +kernel
theorem dX8_morning_49 : decode cX8_morning 49 = .ok (.iload_n 2, 1) := by decide +kernel
theorem dX8_morning_50 : decode cX8_morning 50 = .ok (.invokevirtual 242, 3) := by decide +kernel
theorem dX8_morning_53 : decode cX8_morning 53 = .ok (.iload_n 3, 1) := by decide +kernel
theorem dX8_morning_54 : decode cX8_morning 54 = .ok (.ifCond .ne 16, 3) := by decide +kernel
theorem dX8_morning_57 : decode cX8_morning 57 = .ok (.aload_n 0, 1) := by decide +kernel
theorem dX8_morning_58 : decode cX8_morning 58 = .ok (.getfield 50, 3) := by decide +kernel
theorem dX8_morning_61 : decode cX8_morning 61 = .ok (.getfield 214, 3) := by decide +kernel
theorem dX8_morning_64 : decode cX8_morning 64 = .ok (.invokevirtual 246, 3) := by decide +kernel
theorem dX8_morning_67 : decode cX8_morning 67 = .ok (.goto 10, 3) := by decide +kernel
theorem dX8_morning_70 : decode cX8_morning 70 = .ok (.aload_n 0, 1) := by decide +kernel
theorem dX8_morning_71 : decode cX8_morning 71 = .ok (.getfield 50, 3) := by decide +kernel
theorem dX8_morning_74 : decode cX8_morning 74 = .ok (.getfield 196, 3) := by decide +kernel
theorem dX8_morning_77 : decode cX8_morning 77 = .ok (.ireturn, 1) := by decide +kernel
theorem dX8_keep_0 : decode cX8_keep 0 = .ok (.aload_n 0, 1) := by decide +kernel
theorem dX8_keep_1 : decode cX8_keep 1 = .ok (.getfield 44, 3) := by decide +kernel
theorem dX8_keep_4 : decode cX8_keep 4 = .ok (.getfield 176, 3) := by decide +kernel
theorem dX8_keep_7 : decode cX8_keep 7 = .ok (.iconst 2, 1) := by decide +kernel
theorem dX8_keep_8 : decode cX8_keep 8 = .ok (.if_icmp .lt 6, 3) := by decide +kernel
theorem dX8_keep_11 : decode cX8_keep 11 = .ok (.bipush (-3), 2) := by decide +kernel
theorem dX8_keep_13 : decode cX8_keep 13 = .ok (.ireturn, 1) := by decide +kernel
theorem dX8_keep_14 : decode cX8_keep 14 = .ok (.aload_n 0, 1) := by decide +kernel
theorem dX8_keep_15 : decode cX8_keep 15 = .ok (.getfield 44, 3) := by decide +kernel
theorem dX8_keep_18 : decode cX8_keep 18 = .ok (.aload_n 0, 1) := by decide +kernel
theorem dX8_keep_19 : decode cX8_keep 19 = .ok (.getfield 31, 3) := by decide +kernel
theorem dX8_keep_22 : decode cX8_keep 22 = .ok (.invokevirtual 150, 3) := by decide +kernel
theorem dX8_keep_25 : decode cX8_keep 25 = .ok (.aload_n 0, 1) := by decide +kernel
theorem dX8_keep_26 : decode cX8_keep 26 = .ok (.getfield 44, 3) := by decide +kernel
theorem dX8_keep_29 : decode cX8_keep 29 = .ok (.getfield 176, 3) := by decide +kernel
theorem dX8_keep_32 : decode cX8_keep 32 = .ok (.ireturn, 1) := by decide +kernel
theorem dX8_back_0 : decode cX8_back 0 = .ok (.aload_n 0, 1) := by decide +kernel
theorem dX8_back_1 : decode cX8_back 1 = .ok (.getfield 44, 3) := by decide +kernel
theorem dX8_back_4 : decode cX8_back 4 = .ok (.getfield 176, 3) := by decide +kernel
theorem dX8_back_7 : decode cX8_back 7 = .ok (.ifCond .ne 6, 3) := by decide +kernel
theorem dX8_back_10 : decode cX8_back 10 = .ok (.bipush (-2), 2) := by decide +kernel
theorem dX8_back_12 : decode cX8_back 12 = .ok (.ireturn, 1) := by decide +kernel
theorem dX8_back_13 : decode cX8_back 13 = .ok (.aload_n 0, 1) := by decide +kernel
theorem dX8_back_14 : decode cX8_back 14 = .ok (.getfield 44, 3) := by decide +kernel
theorem dX8_back_17 : decode cX8_back 17 = .ok (.aload_n 0, 1) := by decide +kernel
theorem dX8_back_18 : decode cX8_back 18 = .ok (.getfield 31, 3) := by decide +kernel
theorem dX8_back_21 : decode cX8_back 21 = .ok (.invokevirtual 177, 3) := by decide +kernel
theorem dX8_back_24 : decode cX8_back 24 = .ok (.aload_n 0, 1) := by decide +kernel
theorem dX8_back_25 : decode cX8_back 25 = .ok (.getfield 40, 3) := by decide +kernel
theorem dX8_back_28 : decode cX8_back 28 = .ok (.invokevirtual 109, 3) := by decide +kernel
theorem dX8_back_31 : decode cX8_back 31 = .ok (.aload_n 0, 1) := by decide +kernel
theorem dX8_back_32 : decode cX8_back 32 = .ok (.getfield 44, 3) := by decide +kernel
theorem dX8_back_35 : decode cX8_back 35 = .ok (.getfield 176, 3) := by decide +kernel
theorem dX8_back_38 : decode cX8_back 38 = .ok (.ireturn, 1) := by decide +kernel
theorem dX8_count_0 : decode cX8_count 0 = .ok (.iload_n 1, 1) := by decide +kernel
theorem dX8_count_1 : decode cX8_count 1 = .ok (.tableswitch 196 0 13 #[71, 79, 87, 95, 104, 113, 122, 131, 140, 156, 164, 172, 180, 188], 71) := by decide +kernel
theorem dX8_count_72 : decode cX8_count 72 = .ok (.aload_n 0, 1) := by decide +kernel
theorem dX8_count_73 : decode cX8_count 73 = .ok (.getfield 23, 3) := by decide +kernel
theorem dX8_count_76 : decode cX8_count 76 = .ok (.getfield 103, 3) := by decide +kernel
theorem dX8_count_79 : decode cX8_count 79 = .ok (.ireturn, 1) := by decide +kernel
theorem dX8_count_80 : decode cX8_count 80 = .ok (.aload_n 0, 1) := by decide +kernel
theorem dX8_count_81 : decode cX8_count 81 = .ok (.getfield 31, 3) := by decide +kernel
theorem dX8_count_84 : decode cX8_count 84 = .ok (.getfield 249, 3) := by decide +kernel
theorem dX8_count_87 : decode cX8_count 87 = .ok (.ireturn, 1) := by decide +kernel
theorem dX8_count_88 : decode cX8_count 88 = .ok (.aload_n 0, 1) := by decide +kernel
theorem dX8_count_89 : decode cX8_count 89 = .ok (.getfield 31, 3) := by decide +kernel
theorem dX8_count_92 : decode cX8_count 92 = .ok (.getfield 170, 3) := by decide +kernel
theorem dX8_count_95 : decode cX8_count 95 = .ok (.ireturn, 1) := by decide +kernel
theorem dX8_count_96 : decode cX8_count 96 = .ok (.aload_n 0, 1) := by decide +kernel
theorem dX8_count_97 : decode cX8_count 97 = .ok (.getfield 31, 3) := by decide +kernel
theorem dX8_count_100 : decode cX8_count 100 = .ok (.iconst 0, 1) := by decide +kernel
theorem dX8_count_101 : decode cX8_count 101 = .ok (.invokevirtual 227, 3) := by decide +kernel
theorem dX8_count_104 : decode cX8_count 104 = .ok (.ireturn, 1) := by decide +kernel
theorem dX8_count_105 : decode cX8_count 105 = .ok (.aload_n 0, 1) := by decide +kernel
theorem dX8_count_106 : decode cX8_count 106 = .ok (.getfield 31, 3) := by decide +kernel
theorem dX8_count_109 : decode cX8_count 109 = .ok (.iconst 1, 1) := by decide +kernel
theorem dX8_count_110 : decode cX8_count 110 = .ok (.invokevirtual 227, 3) := by decide +kernel
theorem dX8_count_113 : decode cX8_count 113 = .ok (.ireturn, 1) := by decide +kernel
theorem dX8_count_114 : decode cX8_count 114 = .ok (.aload_n 0, 1) := by decide +kernel
theorem dX8_count_115 : decode cX8_count 115 = .ok (.getfield 31, 3) := by decide +kernel
theorem dX8_count_118 : decode cX8_count 118 = .ok (.iconst 2, 1) := by decide +kernel
theorem dX8_count_119 : decode cX8_count 119 = .ok (.invokevirtual 227, 3) := by decide +kernel
theorem dX8_count_122 : decode cX8_count 122 = .ok (.ireturn, 1) := by decide +kernel
theorem dX8_count_123 : decode cX8_count 123 = .ok (.aload_n 0, 1) := by decide +kernel
theorem dX8_count_124 : decode cX8_count 124 = .ok (.getfield 31, 3) := by decide +kernel
theorem dX8_count_127 : decode cX8_count 127 = .ok (.iconst 3, 1) := by decide +kernel
theorem dX8_count_128 : decode cX8_count 128 = .ok (.invokevirtual 227, 3) := by decide +kernel
theorem dX8_count_131 : decode cX8_count 131 = .ok (.ireturn, 1) := by decide +kernel
theorem dX8_count_132 : decode cX8_count 132 = .ok (.aload_n 0, 1) := by decide +kernel
theorem dX8_count_133 : decode cX8_count 133 = .ok (.getfield 31, 3) := by decide +kernel
theorem dX8_count_136 : decode cX8_count 136 = .ok (.iconst 0, 1) := by decide +kernel
theorem dX8_count_137 : decode cX8_count 137 = .ok (.invokevirtual 250, 3) := by decide +kernel
theorem dX8_count_140 : decode cX8_count 140 = .ok (.ireturn, 1) := by decide +kernel
theorem dX8_count_141 : decode cX8_count 141 = .ok (.aload_n 0, 1) := by decide +kernel
theorem dX8_count_142 : decode cX8_count 142 = .ok (.getfield 31, 3) := by decide +kernel
theorem dX8_count_145 : decode cX8_count 145 = .ok (.getfield 253, 3) := by decide +kernel
theorem dX8_count_148 : decode cX8_count 148 = .ok (.ifCond .eq 7, 3) := by decide +kernel
theorem dX8_count_151 : decode cX8_count 151 = .ok (.iconst 1, 1) := by decide +kernel
theorem dX8_count_152 : decode cX8_count 152 = .ok (.goto 4, 3) := by decide +kernel
theorem dX8_count_155 : decode cX8_count 155 = .ok (.iconst 0, 1) := by decide +kernel
theorem dX8_count_156 : decode cX8_count 156 = .ok (.ireturn, 1) := by decide +kernel
theorem dX8_count_157 : decode cX8_count 157 = .ok (.aload_n 0, 1) := by decide +kernel
theorem dX8_count_158 : decode cX8_count 158 = .ok (.getfield 31, 3) := by decide +kernel
theorem dX8_count_161 : decode cX8_count 161 = .ok (.invokevirtual 257, 3) := by decide +kernel
theorem dX8_count_164 : decode cX8_count 164 = .ok (.ireturn, 1) := by decide +kernel
theorem dX8_count_165 : decode cX8_count 165 = .ok (.aload_n 0, 1) := by decide +kernel
theorem dX8_count_166 : decode cX8_count 166 = .ok (.getfield 66, 3) := by decide +kernel
theorem dX8_count_169 : decode cX8_count 169 = .ok (.getfield 110, 3) := by decide +kernel
theorem dX8_count_172 : decode cX8_count 172 = .ok (.ireturn, 1) := by decide +kernel
theorem dX8_count_173 : decode cX8_count 173 = .ok (.aload_n 0, 1) := by decide +kernel
theorem dX8_count_174 : decode cX8_count 174 = .ok (.getfield 40, 3) := by decide +kernel
theorem dX8_count_177 : decode cX8_count 177 = .ok (.getfield 176, 3) := by decide +kernel
theorem dX8_count_180 : decode cX8_count 180 = .ok (.ireturn, 1) := by decide +kernel
theorem dX8_count_181 : decode cX8_count 181 = .ok (.aload_n 0, 1) := by decide +kernel
theorem dX8_count_182 : decode cX8_count 182 = .ok (.getfield 44, 3) := by decide +kernel
theorem dX8_count_185 : decode cX8_count 185 = .ok (.getfield 176, 3) := by decide +kernel
theorem dX8_count_188 : decode cX8_count 188 = .ok (.ireturn, 1) := by decide +kernel
theorem dX8_count_189 : decode cX8_count 189 = .ok (.aload_n 0, 1) := by decide +kernel
theorem dX8_count_190 : decode cX8_count 190 = .ok (.getfield 10, 3) := by decide +kernel
theorem dX8_count_193 : decode cX8_count 193 = .ok (.getfield 101, 3) := by decide +kernel
theorem dX8_count_196 : decode cX8_count 196 = .ok (.ireturn, 1) := by decide +kernel
theorem dX8_count_197 : decode cX8_count 197 = .ok (.iconst (-1), 1) := by decide +kernel
theorem dX8_count_198 : decode cX8_count 198 = .ok (.ireturn, 1) := by decide +kernel
end
section
theorem dX9_init_0 : decode cX9_init 0 = .ok (.aload_n 0, 1) := by decide +kernel
theorem dX9_init_1 : decode cX9_init 1 = .ok (.invokespecial 1, 3) := by decide +kernel
theorem dX9_init_4 : decode cX9_init 4 = .ok (.aload_n 0, 1) := by decide +kernel
theorem dX9_init_5 : decode cX9_init 5 = .ok (.sipush 200, 3) := by decide +kernel
theorem dX9_init_8 : decode cX9_init 8 = .ok (.newarray .int, 2) := by decide +kernel
theorem dX9_init_10 : decode cX9_init 10 = .ok (.putfield 7, 3) := by decide +kernel
theorem dX9_init_13 : decode cX9_init 13 = .ok (.aload_n 0, 1) := by decide +kernel
theorem dX9_init_14 : decode cX9_init 14 = .ok (.bipush 17, 2) := by decide +kernel
theorem dX9_init_16 : decode cX9_init 16 = .ok (.newarray .int, 2) := by decide +kernel
theorem dX9_init_18 : decode cX9_init 18 = .ok (.putfield 13, 3) := by decide +kernel
theorem dX9_init_21 : decode cX9_init 21 = .ok (.aload_n 0, 1) := by decide +kernel
theorem dX9_init_22 : decode cX9_init 22 = .ok (.bipush 17, 2) := by decide +kernel
theorem dX9_init_24 : decode cX9_init 24 = .ok (.newarray .int, 2) := by decide +kernel
theorem dX9_init_26 : decode cX9_init 26 = .ok (.putfield 16, 3) := by decide +kernel
theorem dX9_init_29 : decode cX9_init 29 = .ok (.aload_n 0, 1) := by decide +kernel
theorem dX9_init_30 : decode cX9_init 30 = .ok (.bipush 29, 2) := by decide +kernel
theorem dX9_init_32 : decode cX9_init 32 = .ok (.newarray .int, 2) := by decide +kernel
theorem dX9_init_34 : decode cX9_init 34 = .ok (.putfield 19, 3) := by decide +kernel
theorem dX9_init_37 : decode cX9_init 37 = .ok (.aload_n 0, 1) := by decide +kernel
theorem dX9_init_38 : decode cX9_init 38 = .ok (.sipush 232, 3) := by decide +kernel
theorem dX9_init_41 : decode cX9_init 41 = .ok (.newarray .int, 2) := by decide +kernel
theorem dX9_init_43 : decode cX9_init 43 = .ok (.putfield 22, 3) := by decide +kernel
theorem dX9_init_46 : decode cX9_init 46 = .ok (.aload_n 0, 1) := by decide +kernel
theorem dX9_init_47 : decode cX9_init 47 = .ok (.bipush 58, 2) := by decide +kernel
theorem dX9_init_49 : decode cX9_init 49 = .ok (.newarray .int, 2) := by decide +kernel
theorem dX9_init_51 : decode cX9_init 51 = .ok (.putfield 25, 3) := by decide +kernel
theorem dX9_init_54 : decode cX9_init 54 = .ok (.aload_n 0, 1) := by decide +kernel
theorem dX9_init_55 : decode cX9_init 55 = .ok (.bipush 8, 2) := by decide +kernel
theorem dX9_init_57 : decode cX9_init 57 = .ok (.newarray .int, 2) := by decide +kernel
theorem dX9_init_59 : decode cX9_init 59 = .ok (.putfield 28, 3) := by decide +kernel
theorem dX9_init_62 : decode cX9_init 62 = .ok (.aload_n 0, 1) := by decide +kernel
theorem dX9_init_63 : decode cX9_init 63 = .ok (.bipush 29, 2) := by decide +kernel
theorem dX9_init_65 : decode cX9_init 65 = .ok (.newarray .int, 2) := by decide +kernel
theorem dX9_init_67 : decode cX9_init 67 = .ok (.putfield 31, 3) := by decide +kernel
theorem dX9_init_70 : decode cX9_init 70 = .ok (.aload_n 0, 1) := by decide +kernel
theorem dX9_init_71 : decode cX9_init 71 = .ok (.bipush 6, 2) := by decide +kernel
theorem dX9_init_73 : decode cX9_init 73 = .ok (.newarray .int, 2) := by decide +kernel
theorem dX9_init_75 : decode cX9_init 75 = .ok (.putfield 34, 3) := by decide +kernel
theorem dX9_init_78 : decode cX9_init 78 = .ok (.aload_n 0, 1) := by decide +kernel
theorem dX9_init_79 : decode cX9_init 79 = .ok (.bipush 7, 2) := by decide +kernel
theorem dX9_init_81 : decode cX9_init 81 = .ok (.newarray .int, 2) := by decide +kernel
theorem dX9_init_83 : decode cX9_init 83 = .ok (.putfield 37, 3) := by decide +kernel
theorem dX9_init_86 : decode cX9_init 86 = .ok (.aload_n 0, 1) := by decide +kernel
theorem dX9_init_87 : decode cX9_init 87 = .ok (.invokevirtual 40, 3) := by decide +kernel
theorem dX9_init_90 : decode cX9_init 90 = .ok (.aload_n 0, 1) := by decide +kernel
theorem dX9_init_91 : decode cX9_init 91 = .ok (.iconst 0, 1) := by decide +kernel
theorem dX9_init_92 : decode cX9_init 92 = .ok (.iconst 4, 1) := by decide +kernel
theorem dX9_init_93 : decode cX9_init 93 = .ok (.invokevirtual 43, 3) := by decide +kernel
theorem dX9_init_96 : decode cX9_init 96 = .ok (.aload_n 0, 1) := by decide +kernel
theorem dX9_init_97 : decode cX9_init 97 = .ok (.iconst 1, 1) := by decide +kernel
theorem dX9_init_98 : decode cX9_init 98 = .ok (.iconst 5, 1) := by decide +kernel
theorem dX9_init_99 : decode cX9_init 99 = .ok (.invokevirtual 43, 3) := by decide +kernel
theorem dX9_init_102 : decode cX9_init 102 = .ok (.aload_n 0, 1) := by decide +kernel
theorem dX9_init_103 : decode cX9_init 103 = .ok (.iconst 2, 1) := by decide +kernel
theorem dX9_init_104 : decode cX9_init 104 = .ok (.iconst 3, 1) := by decide +kernel
theorem dX9_init_105 : decode cX9_init 105 = .ok (.invokevirtual 43, 3) := by decide +kernel
theorem dX9_init_108 : decode cX9_init 108 = .ok (.aload_n 0, 1) := by decide +kernel
theorem dX9_init_109 : decode cX9_init 109 = .ok (.iconst 3, 1) := by decide +kernel
theorem dX9_init_110 : decode cX9_init 110 = .ok (.iconst 4, 1) := by decide +kernel
theorem dX9_init_111 : decode cX9_init 111 = .ok (.invokevirtual 43, 3) := by decide +kernel
theorem dX9_init_114 : decode cX9_init 114 = .ok (.aload_n 0, 1) := by decide +kernel
theorem dX9_init_115 : decode cX9_init 115 = .ok (.iconst 0, 1) := by decide +kernel
theorem dX9_init_116 : decode cX9_init 116 = .ok (.bipush 6, 2) := by decide +kernel
theorem dX9_init_118 : decode cX9_init 118 = .ok (.invokevirtual 43, 3) := by decide +kernel
theorem dX9_init_121 : decode cX9_init 121 = .ok (.aload_n 0, 1) := by decide +kernel
theorem dX9_init_122 : decode cX9_init 122 = .ok (.iconst 1, 1) := by decide +kernel
theorem dX9_init_123 : decode cX9_init 123 = .ok (.iconst 3, 1) := by decide +kernel
theorem dX9_init_124 : decode cX9_init 124 = .ok (.invokevirtual 43, 3) := by decide +kernel
theorem dX9_init_127 : decode cX9_init 127 = .ok (.aload_n 0, 1) := by decide +kernel
theorem dX9_init_128 : decode cX9_init 128 = .ok (.getfield 16, 3) := by decide +kernel
theorem dX9_init_131 : decode cX9_init 131 = .ok (.iconst 2, 1) := by decide +kernel
theorem dX9_init_132 : decode cX9_init 132 = .ok (.iconst 5, 1) := by decide +kernel
theorem dX9_init_133 : decode cX9_init 133 = .ok (.iastore, 1) := by decide +kernel
theorem dX9_init_134 : decode cX9_init 134 = .ok (.aload_n 0, 1) := by decide +kernel
theorem dX9_init_135 : decode cX9_init 135 = .ok (.getfield 16, 3) := by decide +kernel
theorem dX9_init_138 : decode cX9_init 138 = .ok (.iconst 4, 1) := by decide +kernel
theorem dX9_init_139 : decode cX9_init 139 = .ok (.bipush 40, 2) := by decide +kernel
theorem dX9_init_141 : decode cX9_init 141 = .ok (.iastore, 1) := by decide +kernel
theorem dX9_init_142 : decode cX9_init 142 = .ok (.aload_n 0, 1) := by decide +kernel
theorem dX9_init_143 : decode cX9_init 143 = .ok (.invokevirtual 47, 3) := by decide +kernel
theorem dX9_init_146 : decode cX9_init 146 = .ok (.return_, 1) := by decide +kernel
theorem dX9_in_0 : decode cX9_in 0 = .ok (.iload_n 0, 1) := by decide +kernel
theorem dX9_in_1 : decode cX9_in 1 = .ok (.iload_n 1, 1) := by decide +kernel
theorem dX9_in_2 : decode cX9_in 2 = .ok (.if_icmp .lt 12, 3) := by decide +kernel
theorem dX9_in_5 : decode cX9_in 5 = .ok (.iload_n 0, 1) := by decide +kernel
theorem dX9_in_6 : decode cX9_in 6 = .ok (.iload_n 2, 1) := by decide +kernel
theorem dX9_in_7 : decode cX9_in 7 = .ok (.if_icmp .gt 7, 3) := by decide +kernel
theorem dX9_in_10 : decode cX9_in 10 = .ok (.iconst 1, 1) := by decide +kernel
theorem dX9_in_11 : decode cX9_in 11 = .ok (.goto 4, 3) := by decide +kernel
theorem dX9_in_14 : decode cX9_in 14 = .ok (.iconst 0, 1) := by decide +kernel
theorem dX9_in_15 : decode cX9_in 15 = .ok (.ireturn, 1) := by decide +kernel
theorem dX9_isChild_0 : decode cX9_isChild 0 = .ok (.iload_n 1, 1) := by decide +kernel
theorem dX9_isChild_1 : decode cX9_isChild 1 = .ok (.iconst 0, 1) := by decide +kernel
theorem dX9_isChild_2 : decode cX9_isChild 2 = .ok (.aload_n 0, 1) := by decide +kernel
theorem dX9_isChild_3 : decode cX9_isChild 3 = .ok (.getfield 13, 3) := by decide +kernel
theorem dX9_isChild_6 : decode cX9_isChild 6 = .ok (.iconst 0, 1) := by decide +kernel
theorem dX9_isChild_7 : decode cX9_isChild 7 = .ok (.iaload, 1) := by decide +kernel
theorem dX9_isChild_8 : decode cX9_isChild 8 = .ok (.iconst 1, 1) := by decide +kernel
theorem dX9_isChild_9 : decode cX9_isChild 9 = .ok (.isub, 1) := by decide +kernel
theorem dX9_isChild_10 : decode cX9_isChild 10 = .ok (.invokestatic 50, 3) := by decide +kernel
theorem dX9_isChild_13 : decode cX9_isChild 13 = .ok (.ireturn, 1) := by decide +kernel
theorem dX9_isWoman_0 : decode cX9_isWoman 0 = .ok (.iload_n 1, 1) := by decide +kernel
theorem dX9_isWoman_1 : decode cX9_isWoman 1 = .ok (.iconst 0, 1) := by decide +kernel
theorem dX9_isWoman_2 : decode cX9_isWoman 2 = .ok (.aload_n 0, 1) := by decide +kernel
theorem dX9_isWoman_3 : decode cX9_isWoman 3 = .ok (.getfield 13, 3) := by decide +kernel
theorem dX9_isWoman_6 : decode cX9_isWoman 6 = .ok (.iconst 1, 1) := by decide +kernel
theorem dX9_isWoman_7 : decode cX9_isWoman 7 = .ok (.iaload, 1) := by decide +kernel
theorem dX9_isWoman_8 : decode cX9_isWoman 8 = .ok (.iconst 1, 1) := by decide +kernel
theorem dX9_isWoman_9 : decode cX9_isWoman 9 = .ok (.isub, 1) := by decide +kernel
theorem dX9_isWoman_10 : decode cX9_isWoman 10 = .ok (.invokestatic 50, 3) := by decide +kernel
theorem dX9_isWoman_13 : decode cX9_isWoman 13 = .ok (.ireturn, 1) := by decide +kernel
theorem dX9_write_0 : decode cX9_write 0 = .ok (.iload_n 1, 1) := by decide +kernel
theorem dX9_write_1 : decode cX9_write 1 = .ok (.bipush 32, 2) := by decide +kernel
theorem dX9_write_3 : decode cX9_write 3 = .ok (.bipush 126, 2) := by decide +kernel
theorem dX9_write_5 : decode cX9_write 5 = .ok (.invokestatic 50, 3) := by decide +kernel
theorem dX9_write_8 : decode cX9_write 8 = .ok (.ifCond .ne 5, 3) := by decide +kernel
theorem dX9_write_11 : decode cX9_write 11 = .ok (.iconst (-1), 1) := by decide +kernel
theorem dX9_write_12 : decode cX9_write 12 = .ok (.ireturn, 1) := by decide +kernel
theorem dX9_write_13 : decode cX9_write 13 = .ok (.aload_n 0, 1) := by decide +kernel
theorem dX9_write_14 : decode cX9_write 14 = .ok (.getfield 54, 3) := by decide +kernel
theorem dX9_write_17 : decode cX9_write 17 = .ok (.sipush 200, 3) := by decide +kernel
theorem dX9_write_20 : decode cX9_write 20 = .ok (.if_icmp .ne 6, 3) := by decide +kernel
theorem dX9_write_23 : decode cX9_write 23 = .ok (.bipush (-3), 2) := by decide +kernel
theorem dX9_write_25 : decode cX9_write 25 = .ok (.ireturn, 1) := by decide +kernel
theorem dX9_write_26 : decode cX9_write 26 = .ok (.aload_n 0, 1) := by decide +kernel
theorem dX9_write_27 : decode cX9_write 27 = .ok (.getfield 7, 3) := by decide +kernel
theorem dX9_write_30 : decode cX9_write 30 = .ok (.aload_n 0, 1) := by decide +kernel
theorem dX9_write_31 : decode cX9_write 31 = .ok (.getfield 54, 3) := by decide +kernel
theorem dX9_write_34 : decode cX9_write 34 = .ok (.iload_n 1, 1) := by decide +kernel
theorem dX9_write_35 : decode cX9_write 35 = .ok (.iastore, 1) := by decide +kernel
theorem dX9_write_36 : decode cX9_write 36 = .ok (.aload_n 0, 1) := by decide +kernel
theorem dX9_write_37 : decode cX9_write 37 = .ok (.dup, 1) := by decide +kernel
theorem dX9_write_38 : decode cX9_write 38 = .ok (.getfield 54, 3) := by decide +kernel
theorem dX9_write_41 : decode cX9_write 41 = .ok (.iconst 1, 1) := by decide +kernel
theorem dX9_write_42 : decode cX9_write 42 = .ok (.iadd, 1) := by decide +kernel
theorem dX9_write_43 : decode cX9_write 43 = .ok (.putfield 54, 3) := by decide +kernel
theorem dX9_write_46 : decode cX9_write 46 = .ok (.aload_n 0, 1) := by decide +kernel
theorem dX9_write_47 : decode cX9_write 47 = .ok (.getfield 54, 3) := by decide +kernel
theorem dX9_write_50 : decode cX9_write 50 = .ok (.ireturn, 1) := by decide +kernel
theorem dX9_wipe_0 : decode cX9_wipe 0 = .ok (.aload_n 0, 1) := by decide +kernel
theorem dX9_wipe_1 : decode cX9_wipe 1 = .ok (.getfield 54, 3) := by decide +kernel
theorem dX9_wipe_4 : decode cX9_wipe 4 = .ok (.istore_n 1, 1) := by decide +kernel
theorem dX9_wipe_5 : decode cX9_wipe 5 = .ok (.aload_n 0, 1) := by decide +kernel
theorem dX9_wipe_6 : decode cX9_wipe 6 = .ok (.iconst 0, 1) := by decide +kernel
theorem dX9_wipe_7 : decode cX9_wipe 7 = .ok (.putfield 54, 3) := by decide +kernel
theorem dX9_wipe_10 : decode cX9_wipe 10 = .ok (.iload_n 1, 1) := by decide +kernel
theorem dX9_wipe_11 : decode cX9_wipe 11 = .ok (.ireturn, 1) := by decide +kernel
theorem dX9_letterAt_0 : decode cX9_letterAt 0 = .ok (.iload_n 1, 1) := by decide +kernel
theorem dX9_letterAt_1 : decode cX9_letterAt 1 = .ok (.aload_n 0, 1) := by decide +kernel
theorem dX9_letterAt_2 : decode cX9_letterAt 2 = .ok (.getfield 54, 3) := by decide +kernel
theorem dX9_letterAt_5 : decode cX9_letterAt 5 = .ok (.if_icmp .ge 12, 3) := by decide +kernel
theorem dX9_letterAt_8 : decode cX9_letterAt 8 = .ok (.aload_n 0, 1) := by decide +kernel
theorem dX9_letterAt_9 : decode cX9_letterAt 9 = .ok (.getfield 7, 3) := by decide +kernel
theorem dX9_letterAt_12 : decode cX9_letterAt 12 = .ok (.iload_n 1, 1) := by decide +kernel
theorem dX9_letterAt_13 : decode cX9_letterAt 13 = .ok (.iaload, 1) := by decide +kernel
theorem dX9_letterAt_14 : decode cX9_letterAt 14 = .ok (.goto 4, 3) := by decide +kernel
theorem dX9_letterAt_17 : decode cX9_letterAt 17 = .ok (.iconst (-1), 1) := by decide +kernel
theorem dX9_letterAt_18 : decode cX9_letterAt 18 = .ok (.ireturn, 1) := by decide +kernel
theorem dX9_isFigure_0 : decode cX9_isFigure 0 = .ok (.iload_n 0, 1) := by decide +kernel
theorem dX9_isFigure_1 : decode cX9_isFigure 1 = .ok (.bipush 48, 2) := by decide +kernel
theorem dX9_isFigure_3 : decode cX9_isFigure 3 = .ok (.bipush 57, 2) := by decide +kernel
theorem dX9_isFigure_5 : decode cX9_isFigure 5 = .ok (.invokestatic 50, 3) := by decide +kernel
theorem dX9_isFigure_8 : decode cX9_isFigure 8 = .ok (.ireturn, 1) := by decide +kernel
theorem dX9_number_0 : decode cX9_number 0 = .ok (.aload_n 0, 1) := by decide +kernel
theorem dX9_number_1 : decode cX9_number 1 = .ok (.aload_n 0, 1) := by decide +kernel
theorem dX9_number_2 : decode cX9_number 2 = .ok (.getfield 58, 3) := by decide +kernel
theorem dX9_number_5 : decode cX9_number 5 = .ok (.invokevirtual 61, 3) := by decide +kernel
theorem dX9_number_8 : decode cX9_number 8 = .ok (.invokestatic 65, 3) := by decide +kernel
theorem dX9_number_11 : decode cX9_number 11 = .ok (.ifCond .ne 5, 3) := by decide +kernel
theorem dX9_number_14 : decode cX9_number 14 = .ok (.iconst (-1), 1) := by decide +kernel
theorem dX9_number_15 : decode cX9_number 15 = .ok (.ireturn, 1) := by decide +kernel
theorem dX9_number_16 : decode cX9_number 16 = .ok (.aload_n 0, 1) := by decide +kernel
theorem dX9_number_17 : decode cX9_number 17 = .ok (.aload_n 0, 1) := by decide +kernel
theorem dX9_number_18 : decode cX9_number 18 = .ok (.getfield 58, 3) := by decide +kernel
theorem dX9_number_21 : decode cX9_number 21 = .ok (.invokevirtual 61, 3) := by decide +kernel
theorem dX9_number_24 : decode cX9_number 24 = .ok (.bipush 48, 2) := by decide +kernel
theorem dX9_number_26 : decode cX9_number 26 = .ok (.isub, 1) := by decide +kernel
theorem dX9_number_27 : decode cX9_number 27 = .ok (.istore 4, 2) := by decide +kernel
theorem dX9_number_29 : decode cX9_number 29 = .ok (.aload_n 0, 1) := by decide +kernel
theorem dX9_number_30 : decode cX9_number 30 = .ok (.dup, 1) := by decide +kernel
theorem dX9_number_31 : decode cX9_number 31 = .ok (.getfield 58, 3) := by decide +kernel
theorem dX9_number_34 : decode cX9_number 34 = .ok (.iconst 1, 1) := by decide +kernel
theorem dX9_number_35 : decode cX9_number 35 = .ok (.iadd, 1) := by decide +kernel
theorem dX9_number_36 : decode cX9_number 36 = .ok (.putfield 58, 3) := by decide +kernel
theorem dX9_number_39 : decode cX9_number 39 = .ok (.aload_n 0, 1) := by decide +kernel
theorem dX9_number_40 : decode cX9_number 40 = .ok (.aload_n 0, 1) := by decide +kernel
theorem dX9_number_41 : decode cX9_number 41 = .ok (.getfield 58, 3) := by decide +kernel
theorem dX9_number_44 : decode cX9_number 44 = .ok (.invokevirtual 61, 3) := by decide +kernel
theorem dX9_number_47 : decode cX9_number 47 = .ok (.invokestatic 65, 3) := by decide +kernel
theorem dX9_number_50 : decode cX9_number 50 = .ok (.ifCond .eq 32, 3) := by decide +kernel
theorem dX9_number_53 : decode cX9_number 53 = .ok (.bipush 10, 2) := by decide +kernel
theorem dX9_number_55 : decode cX9_number 55 = .ok (.iload 4, 2) := by decide +kernel
theorem dX9_number_57 : decode cX9_number 57 = .ok (.imul, 1) := by decide +kernel
theorem dX9_number_58 : decode cX9_number 58 = .ok (.aload_n 0, 1) := by decide +kernel
theorem dX9_number_59 : decode cX9_number 59 = .ok (.aload_n 0, 1) := by decide +kernel
theorem dX9_number_60 : decode cX9_number 60 = .ok (.getfield 58, 3) := by decide +kernel
theorem dX9_number_63 : decode cX9_number 63 = .ok (.invokevirtual 61, 3) := by decide +kernel
theorem dX9_number_66 : decode cX9_number 66 = .ok (.iadd, 1) := by decide +kernel
theorem dX9_number_67 : decode cX9_number 67 = .ok (.bipush 48, 2) := by decide +kernel
theorem dX9_number_69 : decode cX9_number 69 = .ok (.isub, 1) := by decide +kernel
theorem dX9_number_70 : decode cX9_number 70 = .ok (.istore 4, 2) := by decide +kernel
theorem dX9_number_72 : decode cX9_number 72 = .ok (.aload_n 0, 1) := by decide +kernel
theorem dX9_number_73 : decode cX9_number 73 = .ok (.dup, 1) := by decide +kernel
theorem dX9_number_74 : decode cX9_number 74 = .ok (.getfield 58, 3) := by decide +kernel
theorem dX9_number_77 : decode cX9_number 77 = .ok (.iconst 1, 1) := by decide +kernel
theorem dX9_number_78 : decode cX9_number 78 = .ok (.iadd, 1) := by decide +kernel
theorem dX9_number_79 : decode cX9_number 79 = .ok (.putfield 58, 3) := by decide +kernel
theorem dX9_number_82 : decode cX9_number 82 = .ok (.aload_n 0, 1) := by decide +kernel
theorem dX9_number_83 : decode cX9_number 83 = .ok (.aload_n 0, 1) := by decide +kernel
theorem dX9_number_84 : decode cX9_number 84 = .ok (.getfield 58, 3) := by decide +kernel
theorem dX9_number_87 : decode cX9_number 87 = .ok (.invokevirtual 61, 3) := by decide +kernel
theorem dX9_number_90 : decode cX9_number 90 = .ok (.iload_n 3, 1) := by decide +kernel
theorem dX9_number_91 : decode cX9_number 91 = .ok (.if_icmp .ne 17, 3) := by decide +kernel
theorem dX9_number_94 : decode cX9_number 94 = .ok (.iload 4, 2) := by decide +kernel
theorem dX9_number_96 : decode cX9_number 96 = .ok (.iload_n 1, 1) := by decide +kernel
theorem dX9_number_97 : decode cX9_number 97 = .ok (.iload_n 2, 1) := by decide +kernel
theorem dX9_number_98 : decode cX9_number 98 = .ok (.invokestatic 50, 3) := by decide +kernel
theorem dX9_number_101 : decode cX9_number 101 = .ok (.ifCond .eq 7, 3) := by decide +kernel
theorem dX9_number_104 : decode cX9_number 104 = .ok (.iconst 1, 1) := by decide +kernel
theorem dX9_number_105 : decode cX9_number 105 = .ok (.goto 4, 3) := by decide +kernel
theorem dX9_number_108 : decode cX9_number 108 = .ok (.iconst 0, 1) := by decide +kernel
theorem dX9_number_109 : decode cX9_number 109 = .ok (.istore 5, 2) := by decide +kernel
theorem dX9_number_111 : decode cX9_number 111 = .ok (.aload_n 0, 1) := by decide +kernel
theorem dX9_number_112 : decode cX9_number 112 = .ok (.dup, 1) := by decide +kernel
theorem dX9_number_113 : decode cX9_number 113 = .ok (.getfield 58, 3) := by decide +kernel
theorem dX9_number_116 : decode cX9_number 116 = .ok (.iconst 1, 1) := by decide +kernel
theorem dX9_number_117 : decode cX9_number 117 = .ok (.iadd, 1) := by decide +kernel
theorem dX9_number_118 : decode cX9_number 118 = .ok (.putfield 58, 3) := by decide +kernel
theorem dX9_number_121 : decode cX9_number 121 = .ok (.iload 5, 2) := by decide +kernel
theorem dX9_number_123 : decode cX9_number 123 = .ok (.ifCond .eq 8, 3) := by decide +kernel
theorem dX9_number_126 : decode cX9_number 126 = .ok (.iload 4, 2) := by decide +kernel
theorem dX9_number_128 : decode cX9_number 128 = .ok (.goto 4, 3) := by decide +kernel
theorem dX9_number_131 : decode cX9_number 131 = .ok (.iconst (-1), 1) := by decide +kernel
theorem dX9_number_132 : decode cX9_number 132 = .ok (.ireturn, 1) := by decide +kernel
theorem dX9_begins_0 : decode cX9_begins 0 = .ok (.iconst 0, 1) := by decide +kernel
theorem dX9_begins_1 : decode cX9_begins 1 = .ok (.istore_n 1, 1) := by decide +kernel
theorem dX9_begins_2 : decode cX9_begins 2 = .ok (.iload_n 1, 1) := by decide +kernel
theorem dX9_begins_3 : decode cX9_begins 3 = .ok (.bipush 17, 2) := by decide +kernel
theorem dX9_begins_5 : decode cX9_begins 5 = .ok (.if_icmp .ge 16, 3) := by decide +kernel
theorem dX9_begins_8 : decode cX9_begins 8 = .ok (.aload_n 0, 1) := by decide +kernel
theorem dX9_begins_9 : decode cX9_begins 9 = .ok (.getfield 16, 3) := by decide +kernel
theorem dX9_begins_12 : decode cX9_begins 12 = .ok (.iload_n 1, 1) := by decide +kernel
theorem dX9_begins_13 : decode cX9_begins 13 = .ok (.iconst 0, 1) := by decide +kernel
theorem dX9_begins_14 : decode cX9_begins 14 = .ok (.iastore, 1) := by decide +kernel
theorem dX9_begins_15 : decode cX9_begins 15 = .ok (.iinc 1 1, 3) := by decide +kernel
theorem dX9_begins_18 : decode cX9_begins 18 = .ok (.goto (-16), 3) := by decide +kernel
theorem dX9_begins_21 : decode cX9_begins 21 = .ok (.aload_n 0, 1) := by decide +kernel
theorem dX9_begins_22 : decode cX9_begins 22 = .ok (.getfield 16, 3) := by decide +kernel
theorem dX9_begins_25 : decode cX9_begins 25 = .ok (.iconst 1, 1) := by decide +kernel
theorem dX9_begins_26 : decode cX9_begins 26 = .ok (.iconst 2, 1) := by decide +kernel
theorem dX9_begins_27 : decode cX9_begins 27 = .ok (.iastore, 1) := by decide +kernel
theorem dX9_begins_28 : decode cX9_begins 28 = .ok (.aload_n 0, 1) := by decide +kernel
theorem dX9_begins_29 : decode cX9_begins 29 = .ok (.getfield 16, 3) := by decide +kernel
theorem dX9_begins_32 : decode cX9_begins 32 = .ok (.iconst 2, 1) := by decide +kernel
theorem dX9_begins_33 : decode cX9_begins 33 = .ok (.bipush 9, 2) := by decide +kernel
theorem dX9_begins_35 : decode cX9_begins 35 = .ok (.iastore, 1) := by decide +kernel
theorem dX9_begins_36 : decode cX9_begins 36 = .ok (.aload_n 0, 1) := by decide +kernel
theorem dX9_begins_37 : decode cX9_begins 37 = .ok (.getfield 16, 3) := by decide +kernel
theorem dX9_begins_40 : decode cX9_begins 40 = .ok (.iconst 3, 1) := by decide +kernel
theorem dX9_begins_41 : decode cX9_begins 41 = .ok (.iconst 3, 1) := by decide +kernel
theorem dX9_begins_42 : decode cX9_begins 42 = .ok (.iastore, 1) := by decide +kernel
theorem dX9_begins_43 : decode cX9_begins 43 = .ok (.aload_n 0, 1) := by decide +kernel
theorem dX9_begins_44 : decode cX9_begins 44 = .ok (.getfield 16, 3) := by decide +kernel
theorem dX9_begins_47 : decode cX9_begins 47 = .ok (.iconst 4, 1) := by decide +kernel
theorem dX9_begins_48 : decode cX9_begins 48 = .ok (.bipush 60, 2) := by decide +kernel
theorem dX9_begins_50 : decode cX9_begins 50 = .ok (.iastore, 1) := by decide +kernel
theorem dX9_begins_51 : decode cX9_begins 51 = .ok (.return_, 1) := by decide +kernel
theorem dX9_childOf_0 : decode cX9_childOf 0 = .ok (.aload_n 0, 1) := by decide +kernel
theorem dX9_childOf_1 : decode cX9_childOf 1 = .ok (.getfield 16, 3) := by decide +kernel
theorem dX9_childOf_4 : decode cX9_childOf 4 = .ok (.iconst 5, 1) := by decide +kernel
theorem dX9_childOf_5 : decode cX9_childOf 5 = .ok (.aload_n 0, 1) := by decide +kernel
theorem dX9_childOf_6 : decode cX9_childOf 6 = .ok (.getfield 16, 3) := by decide +kernel
theorem dX9_childOf_9 : decode cX9_childOf 9 = .ok (.iconst 0, 1) := by decide +kernel
theorem dX9_childOf_10 : decode cX9_childOf 10 = .ok (.iaload, 1) := by decide +kernel
theorem dX9_childOf_11 : decode cX9_childOf 11 = .ok (.iadd, 1) := by decide +kernel
theorem dX9_childOf_12 : decode cX9_childOf 12 = .ok (.iload_n 1, 1) := by decide +kernel
theorem dX9_childOf_13 : decode cX9_childOf 13 = .ok (.iastore, 1) := by decide +kernel
theorem dX9_childOf_14 : decode cX9_childOf 14 = .ok (.aload_n 0, 1) := by decide +kernel
theorem dX9_childOf_15 : decode cX9_childOf 15 = .ok (.getfield 16, 3) := by decide +kernel
theorem dX9_childOf_18 : decode cX9_childOf 18 = .ok (.bipush 11, 2) := by decide +kernel
theorem dX9_childOf_20 : decode cX9_childOf 20 = .ok (.aload_n 0, 1) := by decide +kernel
theorem dX9_childOf_21 : decode cX9_childOf 21 = .ok (.getfield 16, 3) := by decide +kernel
theorem dX9_childOf_24 : decode cX9_childOf 24 = .ok (.iconst 0, 1) := by decide +kernel
theorem dX9_childOf_25 : decode cX9_childOf 25 = .ok (.iaload, 1) := by decide +kernel
theorem dX9_childOf_26 : decode cX9_childOf 26 = .ok (.iadd, 1) := by decide +kernel
theorem dX9_childOf_27 : decode cX9_childOf 27 = .ok (.iload_n 2, 1) := by decide +kernel
theorem dX9_childOf_28 : decode cX9_childOf 28 = .ok (.iastore, 1) := by decide +kernel
theorem dX9_childOf_29 : decode cX9_childOf 29 = .ok (.aload_n 0, 1) := by decide +kernel
theorem dX9_childOf_30 : decode cX9_childOf 30 = .ok (.getfield 16, 3) := by decide +kernel
theorem dX9_childOf_33 : decode cX9_childOf 33 = .ok (.iconst 0, 1) := by decide +kernel
theorem dX9_childOf_34 : decode cX9_childOf 34 = .ok (.dup2, 1) := by decide +kernel
theorem dX9_childOf_35 : decode cX9_childOf 35 = .ok (.iaload, 1) := by decide +kernel
theorem dX9_childOf_36 : decode cX9_childOf 36 = .ok (.iconst 1, 1) := by decide +kernel
theorem dX9_childOf_37 : decode cX9_childOf 37 = .ok (.iadd, 1) := by decide +kernel
theorem dX9_childOf_38 : decode cX9_childOf 38 = .ok (.iastore, 1) := by decide +kernel
theorem dX9_childOf_39 : decode cX9_childOf 39 = .ok (.return_, 1) := by decide +kernel
theorem dX9_one_0 : decode cX9_one 0 = .ok (.aload_n 0, 1) := by decide +kernel
theorem dX9_one_1 : decode cX9_one 1 = .ok (.getfield 16, 3) := by decide +kernel
theorem dX9_one_4 : decode cX9_one 4 = .ok (.iload_n 1, 1) := by decide +kernel
theorem dX9_one_5 : decode cX9_one 5 = .ok (.aload_n 0, 1) := by decide +kernel
theorem dX9_one_6 : decode cX9_one 6 = .ok (.iconst 1, 1) := by decide +kernel
theorem dX9_one_7 : decode cX9_one 7 = .ok (.iload_n 2, 1) := by decide +kernel
theorem dX9_one_8 : decode cX9_one 8 = .ok (.bipush 59, 2) := by decide +kernel
theorem dX9_one_10 : decode cX9_one 10 = .ok (.invokevirtual 69, 3) := by decide +kernel
theorem dX9_one_13 : decode cX9_one 13 = .ok (.iastore, 1) := by decide +kernel
theorem dX9_one_14 : decode cX9_one 14 = .ok (.aload_n 0, 1) := by decide +kernel
theorem dX9_one_15 : decode cX9_one 15 = .ok (.getfield 16, 3) := by decide +kernel
theorem dX9_one_18 : decode cX9_one 18 = .ok (.iload_n 1, 1) := by decide +kernel
theorem dX9_one_19 : decode cX9_one 19 = .ok (.iaload, 1) := by decide +kernel
theorem dX9_one_20 : decode cX9_one 20 = .ok (.ifCond .le 7, 3) := by decide +kernel
theorem dX9_one_23 : decode cX9_one 23 = .ok (.iconst 1, 1) := by decide +kernel
theorem dX9_one_24 : decode cX9_one 24 = .ok (.goto 4, 3) := by decide +kernel
theorem dX9_one_27 : decode cX9_one 27 = .ok (.iconst 0, 1) := by decide +kernel
theorem dX9_one_28 : decode cX9_one 28 = .ok (.ireturn, 1) := by decide +kernel
theorem dX9_readsItem_0 : decode cX9_readsItem 0 = .ok (.iload_n 1, 1) := by decide +kernel
theorem dX9_readsItem_1 : decode cX9_readsItem 1 = .ok (.lookupswitch 133 #[(99, 51), (103, 118), (104, 110), (108, 125), (119, 103)], 51) := by decide +kernel
theorem dX9_readsItem_52 : decode cX9_readsItem 52 = .ok (.aload_n 0, 1) := by decide +kernel
theorem dX9_readsItem_53 : decode cX9_readsItem 53 = .ok (.iconst 0, 1) := by decide +kernel
theorem dX9_readsItem_54 : decode cX9_readsItem 54 = .ok (.iconst 3, 1) := by decide +kernel
theorem dX9_readsItem_55 : decode cX9_readsItem 55 = .ok (.bipush 44, 2) := by decide +kernel
theorem dX9_readsItem_57 : decode cX9_readsItem 57 = .ok (.invokevirtual 69, 3) := by decide +kernel
theorem dX9_readsItem_60 : decode cX9_readsItem 60 = .ok (.istore_n 2, 1) := by decide +kernel
theorem dX9_readsItem_61 : decode cX9_readsItem 61 = .ok (.iload_n 2, 1) := by decide +kernel
theorem dX9_readsItem_62 : decode cX9_readsItem 62 = .ok (.ifCond .ge 7, 3) := by decide +kernel
theorem dX9_readsItem_65 : decode cX9_readsItem 65 = .ok (.iconst (-1), 1) := by decide +kernel
theorem dX9_readsItem_66 : decode cX9_readsItem 66 = .ok (.goto 12, 3) := by decide +kernel
theorem dX9_readsItem_69 : decode cX9_readsItem 69 = .ok (.aload_n 0, 1) := by decide +kernel
theorem dX9_readsItem_70 : decode cX9_readsItem 70 = .ok (.iconst 1, 1) := by decide +kernel
theorem dX9_readsItem_71 : decode cX9_readsItem 71 = .ok (.bipush 12, 2) := by decide +kernel
theorem dX9_readsItem_73 : decode cX9_readsItem 73 = .ok (.bipush 59, 2) := by decide +kernel
theorem dX9_readsItem_75 : decode cX9_readsItem 75 = .ok (.invokevirtual 69, 3) := by decide +kernel
theorem dX9_readsItem_78 : decode cX9_readsItem 78 = .ok (.istore_n 3, 1) := by decide +kernel
theorem dX9_readsItem_79 : decode cX9_readsItem 79 = .ok (.iload_n 3, 1) := by decide +kernel
theorem dX9_readsItem_80 : decode cX9_readsItem 80 = .ok (.ifCond .lt 14, 3) := by decide +kernel
theorem dX9_readsItem_83 : decode cX9_readsItem 83 = .ok (.aload_n 0, 1) := by decide +kernel
theorem dX9_readsItem_84 : decode cX9_readsItem 84 = .ok (.getfield 16, 3) := by decide +kernel
theorem dX9_readsItem_87 : decode cX9_readsItem 87 = .ok (.iconst 0, 1) := by decide +kernel
theorem dX9_readsItem_88 : decode cX9_readsItem 88 = .ok (.iaload, 1) := by decide +kernel
theorem dX9_readsItem_89 : decode cX9_readsItem 89 = .ok (.bipush 6, 2) := by decide +kernel
theorem dX9_readsItem_91 : decode cX9_readsItem 91 = .ok (.if_icmp .ne 5, 3) := by decide +kernel
theorem dX9_readsItem_94 : decode cX9_readsItem 94 = .ok (.iconst 0, 1) := by decide +kernel
theorem dX9_readsItem_95 : decode cX9_readsItem 95 = .ok (.ireturn, 1) := by decide +kernel
theorem dX9_readsItem_96 : decode cX9_readsItem 96 = .ok (.aload_n 0, 1) := by decide +kernel
theorem dX9_readsItem_97 : decode cX9_readsItem 97 = .ok (.iload_n 2, 1) := by decide +kernel
theorem dX9_readsItem_98 : decode cX9_readsItem 98 = .ok (.iload_n 3, 1) := by decide +kernel
theorem dX9_readsItem_99 : decode cX9_readsItem 99 = .ok (.invokevirtual 43, 3) := by decide +kernel
theorem dX9_readsItem_102 : decode cX9_readsItem 102 = .ok (.iconst 1, 1) := by decide +kernel
theorem dX9_readsItem_103 : decode cX9_readsItem 103 = .ok (.ireturn, 1) := by decide +kernel
theorem dX9_readsItem_104 : decode cX9_readsItem 104 = .ok (.aload_n 0, 1) := by decide +kernel
theorem dX9_readsItem_105 : decode cX9_readsItem 105 = .ok (.iconst 1, 1) := by decide +kernel
theorem dX9_readsItem_106 : decode cX9_readsItem 106 = .ok (.iconst 3, 1) := by decide +kernel
theorem dX9_readsItem_107 : decode cX9_readsItem 107 = .ok (.invokevirtual 73, 3) := by decide +kernel
theorem dX9_readsItem_110 : decode cX9_readsItem 110 = .ok (.ireturn, 1) := by decide +kernel
theorem dX9_readsItem_111 : decode cX9_readsItem 111 = .ok (.aload_n 0, 1) := by decide +kernel
theorem dX9_readsItem_112 : decode cX9_readsItem 112 = .ok (.iconst 2, 1) := by decide +kernel
theorem dX9_readsItem_113 : decode cX9_readsItem 113 = .ok (.bipush 20, 2) := by decide +kernel
theorem dX9_readsItem_115 : decode cX9_readsItem 115 = .ok (.invokevirtual 73, 3) := by decide +kernel
theorem dX9_readsItem_118 : decode cX9_readsItem 118 = .ok (.ireturn, 1) := by decide +kernel
theorem dX9_readsItem_119 : decode cX9_readsItem 119 = .ok (.aload_n 0, 1) := by decide +kernel
theorem dX9_readsItem_120 : decode cX9_readsItem 120 = .ok (.iconst 3, 1) := by decide +kernel
theorem dX9_readsItem_121 : decode cX9_readsItem 121 = .ok (.iconst 4, 1) := by decide +kernel
theorem dX9_readsItem_122 : decode cX9_readsItem 122 = .ok (.invokevirtual 73, 3) := by decide +kernel
theorem dX9_readsItem_125 : decode cX9_readsItem 125 = .ok (.ireturn, 1) := by decide +kernel
theorem dX9_readsItem_126 : decode cX9_readsItem 126 = .ok (.aload_n 0, 1) := by decide +kernel
theorem dX9_readsItem_127 : decode cX9_readsItem 127 = .ok (.iconst 4, 1) := by decide +kernel
theorem dX9_readsItem_128 : decode cX9_readsItem 128 = .ok (.bipush 99, 2) := by decide +kernel
theorem dX9_readsItem_130 : decode cX9_readsItem 130 = .ok (.invokevirtual 73, 3) := by decide +kernel
theorem dX9_readsItem_133 : decode cX9_readsItem 133 = .ok (.ireturn, 1) := by decide +kernel
theorem dX9_readsItem_134 : decode cX9_readsItem 134 = .ok (.iconst 0, 1) := by decide +kernel
theorem dX9_readsItem_135 : decode cX9_readsItem 135 = .ok (.ireturn, 1) := by decide +kernel
theorem dX9_readsAll_0 : decode cX9_readsAll 0 = .ok (.aload_n 0, 1) := by decide +kernel
theorem dX9_readsAll_1 : decode cX9_readsAll 1 = .ok (.invokevirtual 40, 3) := by decide +kernel
theorem dX9_readsAll_4 : decode cX9_readsAll 4 = .ok (.aload_n 0, 1) := by decide +kernel
theorem dX9_readsAll_5 : decode cX9_readsAll 5 = .ok (.iconst 0, 1) := by decide +kernel
theorem dX9_readsAll_6 : decode cX9_readsAll 6 = .ok (.putfield 58, 3) := by decide +kernel
theorem dX9_readsAll_9 : decode cX9_readsAll 9 = .ok (.aload_n 0, 1) := by decide +kernel
theorem dX9_readsAll_10 : decode cX9_readsAll 10 = .ok (.getfield 58, 3) := by decide +kernel
theorem dX9_readsAll_13 : decode cX9_readsAll 13 = .ok (.aload_n 0, 1) := by decide +kernel
theorem dX9_readsAll_14 : decode cX9_readsAll 14 = .ok (.getfield 54, 3) := by decide +kernel
theorem dX9_readsAll_17 : decode cX9_readsAll 17 = .ok (.if_icmp .ge 36, 3) := by decide +kernel
theorem dX9_readsAll_20 : decode cX9_readsAll 20 = .ok (.aload_n 0, 1) := by decide +kernel
theorem dX9_readsAll_21 : decode cX9_readsAll 21 = .ok (.getfield 58, 3) := by decide +kernel
theorem dX9_readsAll_24 : decode cX9_readsAll 24 = .ok (.istore_n 1, 1) := by decide +kernel
theorem dX9_readsAll_25 : decode cX9_readsAll 25 = .ok (.aload_n 0, 1) := by decide +kernel
theorem dX9_readsAll_26 : decode cX9_readsAll 26 = .ok (.dup, 1) := by decide +kernel
theorem dX9_readsAll_27 : decode cX9_readsAll 27 = .ok (.getfield 58, 3) := by decide +kernel
theorem dX9_readsAll_30 : decode cX9_readsAll 30 = .ok (.iconst 1, 1) := by decide +kernel
theorem dX9_readsAll_31 : decode cX9_readsAll 31 = .ok (.iadd, 1) := by decide +kernel
theorem dX9_readsAll_32 : decode cX9_readsAll 32 = .ok (.putfield 58, 3) := by decide +kernel
theorem dX9_readsAll_35 : decode cX9_readsAll 35 = .ok (.aload_n 0, 1) := by decide +kernel
theorem dX9_readsAll_36 : decode cX9_readsAll 36 = .ok (.aload_n 0, 1) := by decide +kernel
theorem dX9_readsAll_37 : decode cX9_readsAll 37 = .ok (.getfield 7, 3) := by decide +kernel
theorem dX9_readsAll_40 : decode cX9_readsAll 40 = .ok (.iload_n 1, 1) := by decide +kernel
theorem dX9_readsAll_41 : decode cX9_readsAll 41 = .ok (.iaload, 1) := by decide +kernel
theorem dX9_readsAll_42 : decode cX9_readsAll 42 = .ok (.invokevirtual 77, 3) := by decide +kernel
theorem dX9_readsAll_45 : decode cX9_readsAll 45 = .ok (.ifCond .ne 5, 3) := by decide +kernel
theorem dX9_readsAll_48 : decode cX9_readsAll 48 = .ok (.iload_n 1, 1) := by decide +kernel
theorem dX9_readsAll_49 : decode cX9_readsAll 49 = .ok (.ireturn, 1) := by decide +kernel
theorem dX9_readsAll_50 : decode cX9_readsAll 50 = .ok (.goto (-41), 3) := by decide +kernel
theorem dX9_readsAll_53 : decode cX9_readsAll 53 = .ok (.bipush (-4), 2) := by decide +kernel
theorem dX9_readsAll_55 : decode cX9_readsAll 55 = .ok (.ireturn, 1) := by decide +kernel
theorem dX9_fault_0 : decode cX9_fault 0 = .ok (.aload_n 0, 1) := by decide +kernel
theorem dX9_fault_1 : decode cX9_fault 1 = .ok (.invokevirtual 80, 3) := by decide +kernel
theorem dX9_fault_4 : decode cX9_fault 4 = .ok (.ireturn, 1) := by decide +kernel
theorem dX9_starts_0 : decode cX9_starts 0 = .ok (.iconst 0, 1) := by decide +kernel
theorem dX9_starts_1 : decode cX9_starts 1 = .ok (.istore_n 1, 1) := by decide +kernel
theorem dX9_starts_2 : decode cX9_starts 2 = .ok (.iload_n 1, 1) := by decide +kernel
theorem dX9_starts_3 : decode cX9_starts 3 = .ok (.bipush 29, 2) := by decide +kernel
theorem dX9_starts_5 : decode cX9_starts 5 = .ok (.if_icmp .ge 16, 3) := by decide +kernel
theorem dX9_starts_8 : decode cX9_starts 8 = .ok (.aload_n 0, 1) := by decide +kernel
theorem dX9_starts_9 : decode cX9_starts 9 = .ok (.getfield 19, 3) := by decide +kernel
theorem dX9_starts_12 : decode cX9_starts 12 = .ok (.iload_n 1, 1) := by decide +kernel
theorem dX9_starts_13 : decode cX9_starts 13 = .ok (.iconst 0, 1) := by decide +kernel
theorem dX9_starts_14 : decode cX9_starts 14 = .ok (.iastore, 1) := by decide +kernel
theorem dX9_starts_15 : decode cX9_starts 15 = .ok (.iinc 1 1, 3) := by decide +kernel
theorem dX9_starts_18 : decode cX9_starts 18 = .ok (.goto (-16), 3) := by decide +kernel
theorem dX9_starts_21 : decode cX9_starts 21 = .ok (.return_, 1) := by decide +kernel
theorem dX9_lays_0 : decode cX9_lays 0 = .ok (.iconst 0, 1) := by decide +kernel
theorem dX9_lays_1 : decode cX9_lays 1 = .ok (.istore_n 1, 1) := by decide +kernel
theorem dX9_lays_2 : decode cX9_lays 2 = .ok (.iload_n 1, 1) := by decide +kernel
theorem dX9_lays_3 : decode cX9_lays 3 = .ok (.bipush 17, 2) := by decide +kernel
theorem dX9_lays_5 : decode cX9_lays 5 = .ok (.if_icmp .ge 21, 3) := by decide +kernel
theorem dX9_lays_8 : decode cX9_lays 8 = .ok (.aload_n 0, 1) := by decide +kernel
theorem dX9_lays_9 : decode cX9_lays 9 = .ok (.getfield 13, 3) := by decide +kernel
theorem dX9_lays_12 : decode cX9_lays 12 = .ok (.iload_n 1, 1) := by decide +kernel
theorem dX9_lays_13 : decode cX9_lays 13 = .ok (.aload_n 0, 1) := by decide +kernel
theorem dX9_lays_14 : decode cX9_lays 14 = .ok (.getfield 16, 3) := by decide +kernel
theorem dX9_lays_17 : decode cX9_lays 17 = .ok (.iload_n 1, 1) := by decide +kernel
theorem dX9_lays_18 : decode cX9_lays 18 = .ok (.iaload, 1) := by decide +kernel
theorem dX9_lays_19 : decode cX9_lays 19 = .ok (.iastore, 1) := by decide +kernel
theorem dX9_lays_20 : decode cX9_lays 20 = .ok (.iinc 1 1, 3) := by decide +kernel
theorem dX9_lays_23 : decode cX9_lays 23 = .ok (.goto (-21), 3) := by decide +kernel
theorem dX9_lays_26 : decode cX9_lays 26 = .ok (.aload_n 0, 1) := by decide +kernel
theorem dX9_lays_27 : decode cX9_lays 27 = .ok (.invokevirtual 84, 3) := by decide +kernel
theorem dX9_lays_30 : decode cX9_lays 30 = .ok (.aload_n 0, 1) := by decide +kernel
theorem dX9_lays_31 : decode cX9_lays 31 = .ok (.iconst 0, 1) := by decide +kernel
theorem dX9_lays_32 : decode cX9_lays 32 = .ok (.putfield 87, 3) := by decide +kernel
theorem dX9_lays_35 : decode cX9_lays 35 = .ok (.aload_n 0, 1) := by decide +kernel
theorem dX9_lays_36 : decode cX9_lays 36 = .ok (.iconst 0, 1) := by decide +kernel
theorem dX9_lays_37 : decode cX9_lays 37 = .ok (.putfield 90, 3) := by decide +kernel
theorem dX9_lays_40 : decode cX9_lays 40 = .ok (.aload_n 0, 1) := by decide +kernel
theorem dX9_lays_41 : decode cX9_lays 41 = .ok (.iconst 0, 1) := by decide +kernel
theorem dX9_lays_42 : decode cX9_lays 42 = .ok (.putfield 93, 3) := by decide +kernel
theorem dX9_lays_45 : decode cX9_lays 45 = .ok (.return_, 1) := by decide +kernel
theorem dX9_lay_0 : decode cX9_lay 0 = .ok (.aload_n 0, 1) := by decide +kernel
theorem dX9_lay_1 : decode cX9_lay 1 = .ok (.invokevirtual 80, 3) := by decide +kernel
theorem dX9_lay_4 : decode cX9_lay 4 = .ok (.bipush (-4), 2) := by decide +kernel
theorem dX9_lay_6 : decode cX9_lay 6 = .ok (.if_icmp .ne 12, 3) := by decide +kernel
theorem dX9_lay_9 : decode cX9_lay 9 = .ok (.aload_n 0, 1) := by decide +kernel
theorem dX9_lay_10 : decode cX9_lay 10 = .ok (.getfield 16, 3) := by decide +kernel
theorem dX9_lay_13 : decode cX9_lay 13 = .ok (.iconst 0, 1) := by decide +kernel
theorem dX9_lay_14 : decode cX9_lay 14 = .ok (.iaload, 1) := by decide +kernel
theorem dX9_lay_15 : decode cX9_lay 15 = .ok (.ifCond .ne 6, 3) := by decide +kernel
theorem dX9_lay_18 : decode cX9_lay 18 = .ok (.bipush (-2), 2) := by decide +kernel
theorem dX9_lay_20 : decode cX9_lay 20 = .ok (.ireturn, 1) := by decide +kernel
theorem dX9_lay_21 : decode cX9_lay 21 = .ok (.aload_n 0, 1) := by decide +kernel
theorem dX9_lay_22 : decode cX9_lay 22 = .ok (.invokevirtual 47, 3) := by decide +kernel
theorem dX9_lay_25 : decode cX9_lay 25 = .ok (.aload_n 0, 1) := by decide +kernel
theorem dX9_lay_26 : decode cX9_lay 26 = .ok (.getfield 13, 3) := by decide +kernel
theorem dX9_lay_29 : decode cX9_lay 29 = .ok (.iconst 0, 1) := by decide +kernel
theorem dX9_lay_30 : decode cX9_lay 30 = .ok (.iaload, 1) := by decide +kernel
theorem dX9_lay_31 : decode cX9_lay 31 = .ok (.ireturn, 1) := by decide +kernel
theorem dX9_minutes_0 : decode cX9_minutes 0 = .ok (.iload_n 0, 1) := by decide +kernel
theorem dX9_minutes_1 : decode cX9_minutes 1 = .ok (.iconst 1, 1) := by decide +kernel
theorem dX9_minutes_2 : decode cX9_minutes 2 = .ok (.if_icmp .ne 11, 3) := by decide +kernel
theorem dX9_minutes_5 : decode cX9_minutes 5 = .ok (.iload_n 1, 1) := by decide +kernel
theorem dX9_minutes_6 : decode cX9_minutes 6 = .ok (.iconst 1, 1) := by decide +kernel
theorem dX9_minutes_7 : decode cX9_minutes 7 = .ok (.iadd, 1) := by decide +kernel
theorem dX9_minutes_8 : decode cX9_minutes 8 = .ok (.iconst 2, 1) := by decide +kernel
theorem dX9_minutes_9 : decode cX9_minutes 9 = .ok (.idiv, 1) := by decide +kernel
theorem dX9_minutes_10 : decode cX9_minutes 10 = .ok (.goto 15, 3) := by decide +kernel
theorem dX9_minutes_13 : decode cX9_minutes 13 = .ok (.iload_n 0, 1) := by decide +kernel
theorem dX9_minutes_14 : decode cX9_minutes 14 = .ok (.iconst 3, 1) := by decide +kernel
theorem dX9_minutes_15 : decode cX9_minutes 15 = .ok (.if_icmp .ne 9, 3) := by decide +kernel
theorem dX9_minutes_18 : decode cX9_minutes 18 = .ok (.iload_n 1, 1) := by decide +kernel
theorem dX9_minutes_19 : decode cX9_minutes 19 = .ok (.iconst 2, 1) := by decide +kernel
theorem dX9_minutes_20 : decode cX9_minutes 20 = .ok (.iadd, 1) := by decide +kernel
theorem dX9_minutes_21 : decode cX9_minutes 21 = .ok (.goto 4, 3) := by decide +kernel
theorem dX9_minutes_24 : decode cX9_minutes 24 = .ok (.iload_n 1, 1) := by decide +kernel
theorem dX9_minutes_25 : decode cX9_minutes 25 = .ok (.istore_n 3, 1) := by decide +kernel
theorem dX9_minutes_26 : decode cX9_minutes 26 = .ok (.iload_n 2, 1) := by decide +kernel
theorem dX9_minutes_27 : decode cX9_minutes 27 = .ok (.iconst 1, 1) := by decide +kernel
theorem dX9_minutes_28 : decode cX9_minutes 28 = .ok (.if_icmp .ne 14, 3) := by decide +kernel
theorem dX9_minutes_31 : decode cX9_minutes 31 = .ok (.iload_n 3, 1) := by decide +kernel
theorem dX9_minutes_32 : decode cX9_minutes 32 = .ok (.iconst 1, 1) := by decide +kernel
theorem dX9_minutes_33 : decode cX9_minutes 33 = .ok (.if_icmp .le 9, 3) := by decide +kernel
theorem dX9_minutes_36 : decode cX9_minutes 36 = .ok (.iload_n 3, 1) := by decide +kernel
theorem dX9_minutes_37 : decode cX9_minutes 37 = .ok (.iconst 1, 1) := by decide +kernel
theorem dX9_minutes_38 : decode cX9_minutes 38 = .ok (.isub, 1) := by decide +kernel
theorem dX9_minutes_39 : decode cX9_minutes 39 = .ok (.goto 4, 3) := by decide +kernel
theorem dX9_minutes_42 : decode cX9_minutes 42 = .ok (.iload_n 3, 1) := by decide +kernel
theorem dX9_minutes_43 : decode cX9_minutes 43 = .ok (.ireturn, 1) := by decide +kernel
theorem dX9_minutesOf_0 : decode cX9_minutesOf 0 = .ok (.aload_n 0, 1) := by decide +kernel
theorem dX9_minutesOf_1 : decode cX9_minutesOf 1 = .ok (.getfield 13, 3) := by decide +kernel
theorem dX9_minutesOf_4 : decode cX9_minutesOf 4 = .ok (.iconst 5, 1) := by decide +kernel
theorem dX9_minutesOf_5 : decode cX9_minutesOf 5 = .ok (.iload_n 1, 1) := by decide +kernel
theorem dX9_minutesOf_6 : decode cX9_minutesOf 6 = .ok (.iadd, 1) := by decide +kernel
theorem dX9_minutesOf_7 : decode cX9_minutesOf 7 = .ok (.iaload, 1) := by decide +kernel
theorem dX9_minutesOf_8 : decode cX9_minutesOf 8 = .ok (.aload_n 0, 1) := by decide +kernel
theorem dX9_minutesOf_9 : decode cX9_minutesOf 9 = .ok (.getfield 13, 3) := by decide +kernel
theorem dX9_minutesOf_12 : decode cX9_minutesOf 12 = .ok (.bipush 11, 2) := by decide +kernel
theorem dX9_minutesOf_14 : decode cX9_minutesOf 14 = .ok (.iload_n 1, 1) := by decide +kernel
theorem dX9_minutesOf_15 : decode cX9_minutesOf 15 = .ok (.iadd, 1) := by decide +kernel
theorem dX9_minutesOf_16 : decode cX9_minutesOf 16 = .ok (.iaload, 1) := by decide +kernel
theorem dX9_minutesOf_17 : decode cX9_minutesOf 17 = .ok (.aload_n 0, 1) := by decide +kernel
theorem dX9_minutesOf_18 : decode cX9_minutesOf 18 = .ok (.getfield 19, 3) := by decide +kernel
theorem dX9_minutesOf_21 : decode cX9_minutesOf 21 = .ok (.bipush 27, 2) := by decide +kernel
theorem dX9_minutesOf_23 : decode cX9_minutesOf 23 = .ok (.iaload, 1) := by decide +kernel
theorem dX9_minutesOf_24 : decode cX9_minutesOf 24 = .ok (.invokestatic 96, 3) := by decide +kernel
theorem dX9_minutesOf_27 : decode cX9_minutesOf 27 = .ok (.ireturn, 1) := by decide +kernel
theorem dX9_whoHas_0 : decode cX9_whoHas 0 = .ok (.bipush (-4), 2) := by decide +kernel
theorem dX9_whoHas_2 : decode cX9_whoHas 2 = .ok (.istore_n 2, 1) := by decide +kernel
theorem dX9_whoHas_3 : decode cX9_whoHas 3 = .ok (.iconst 0, 1) := by decide +kernel
theorem dX9_whoHas_4 : decode cX9_whoHas 4 = .ok (.istore_n 3, 1) := by decide +kernel
theorem dX9_whoHas_5 : decode cX9_whoHas 5 = .ok (.iload_n 3, 1) := by decide +kernel
theorem dX9_whoHas_6 : decode cX9_whoHas 6 = .ok (.aload_n 0, 1) := by decide +kernel
theorem dX9_whoHas_7 : decode cX9_whoHas 7 = .ok (.getfield 13, 3) := by decide +kernel
theorem dX9_whoHas_10 : decode cX9_whoHas 10 = .ok (.iconst 1, 1) := by decide +kernel
theorem dX9_whoHas_11 : decode cX9_whoHas 11 = .ok (.iaload, 1) := by decide +kernel
theorem dX9_whoHas_12 : decode cX9_whoHas 12 = .ok (.if_icmp .ge 41, 3) := by decide +kernel
theorem dX9_whoHas_15 : decode cX9_whoHas 15 = .ok (.aload_n 0, 1) := by decide +kernel
theorem dX9_whoHas_16 : decode cX9_whoHas 16 = .ok (.getfield 19, 3) := by decide +kernel
theorem dX9_whoHas_19 : decode cX9_whoHas 19 = .ok (.bipush 18, 2) := by decide +kernel
theorem dX9_whoHas_21 : decode cX9_whoHas 21 = .ok (.iload_n 3, 1) := by decide +kernel
theorem dX9_whoHas_22 : decode cX9_whoHas 22 = .ok (.iadd, 1) := by decide +kernel
theorem dX9_whoHas_23 : decode cX9_whoHas 23 = .ok (.iaload, 1) := by decide +kernel
theorem dX9_whoHas_24 : decode cX9_whoHas 24 = .ok (.iconst 1, 1) := by decide +kernel
theorem dX9_whoHas_25 : decode cX9_whoHas 25 = .ok (.if_icmp .ne 20, 3) := by decide +kernel
theorem dX9_whoHas_28 : decode cX9_whoHas 28 = .ok (.aload_n 0, 1) := by decide +kernel
theorem dX9_whoHas_29 : decode cX9_whoHas 29 = .ok (.getfield 19, 3) := by decide +kernel
theorem dX9_whoHas_32 : decode cX9_whoHas 32 = .ok (.bipush 24, 2) := by decide +kernel
theorem dX9_whoHas_34 : decode cX9_whoHas 34 = .ok (.iload_n 3, 1) := by decide +kernel
theorem dX9_whoHas_35 : decode cX9_whoHas 35 = .ok (.iadd, 1) := by decide +kernel
theorem dX9_whoHas_36 : decode cX9_whoHas 36 = .ok (.iaload, 1) := by decide +kernel
theorem dX9_whoHas_37 : decode cX9_whoHas 37 = .ok (.iload_n 1, 1) := by decide +kernel
theorem dX9_whoHas_38 : decode cX9_whoHas 38 = .ok (.if_icmp .ne 7, 3) := by decide +kernel
theorem dX9_whoHas_41 : decode cX9_whoHas 41 = .ok (.iload_n 3, 1) := by decide +kernel
theorem dX9_whoHas_42 : decode cX9_whoHas 42 = .ok (.goto 4, 3) := by decide +kernel
theorem dX9_whoHas_45 : decode cX9_whoHas 45 = .ok (.iload_n 2, 1) := by decide +kernel
theorem dX9_whoHas_46 : decode cX9_whoHas 46 = .ok (.istore_n 2, 1) := by decide +kernel
theorem dX9_whoHas_47 : decode cX9_whoHas 47 = .ok (.iinc 3 1, 3) := by decide +kernel
theorem dX9_whoHas_50 : decode cX9_whoHas 50 = .ok (.goto (-45), 3) := by decide +kernel
theorem dX9_whoHas_53 : decode cX9_whoHas 53 = .ok (.iload_n 2, 1) := by decide +kernel
theorem dX9_whoHas_54 : decode cX9_whoHas 54 = .ok (.ireturn, 1) := by decide +kernel
theorem dX9_child_0 : decode cX9_child 0 = .ok (.aload_n 0, 1) := by decide +kernel
theorem dX9_child_1 : decode cX9_child 1 = .ok (.iload_n 1, 1) := by decide +kernel
theorem dX9_child_2 : decode cX9_child 2 = .ok (.invokevirtual 99, 3) := by decide +kernel
theorem dX9_child_5 : decode cX9_child 5 = .ok (.ifCond .ne 5, 3) := by decide +kernel
theorem dX9_child_8 : decode cX9_child 8 = .ok (.iconst (-1), 1) := by decide +kernel
theorem dX9_child_9 : decode cX9_child 9 = .ok (.ireturn, 1) := by decide +kernel
theorem dX9_child_10 : decode cX9_child 10 = .ok (.iload_n 2, 1) := by decide +kernel
theorem dX9_child_11 : decode cX9_child 11 = .ok (.tableswitch 100 0 5 #[37, 46, 53, 78, 84, 90], 37) := by decide +kernel
theorem dX9_child_48 : decode cX9_child 48 = .ok (.aload_n 0, 1) := by decide +kernel
theorem dX9_child_49 : decode cX9_child 49 = .ok (.getfield 13, 3) := by decide +kernel
theorem dX9_child_52 : decode cX9_child 52 = .ok (.iconst 5, 1) := by decide +kernel
theorem dX9_child_53 : decode cX9_child 53 = .ok (.iload_n 1, 1) := by decide +kernel
theorem dX9_child_54 : decode cX9_child 54 = .ok (.iadd, 1) := by decide +kernel
theorem dX9_child_55 : decode cX9_child 55 = .ok (.iaload, 1) := by decide +kernel
theorem dX9_child_56 : decode cX9_child 56 = .ok (.ireturn, 1) := by decide +kernel
theorem dX9_child_57 : decode cX9_child 57 = .ok (.aload_n 0, 1) := by decide +kernel
theorem dX9_child_58 : decode cX9_child 58 = .ok (.getfield 19, 3) := by decide +kernel
theorem dX9_child_61 : decode cX9_child 61 = .ok (.iload_n 1, 1) := by decide +kernel
theorem dX9_child_62 : decode cX9_child 62 = .ok (.iaload, 1) := by decide +kernel
theorem dX9_child_63 : decode cX9_child 63 = .ok (.ireturn, 1) := by decide +kernel
theorem dX9_child_64 : decode cX9_child 64 = .ok (.aload_n 0, 1) := by decide +kernel
theorem dX9_child_65 : decode cX9_child 65 = .ok (.getfield 19, 3) := by decide +kernel
theorem dX9_child_68 : decode cX9_child 68 = .ok (.iload_n 1, 1) := by decide +kernel
theorem dX9_child_69 : decode cX9_child 69 = .ok (.iaload, 1) := by decide +kernel
theorem dX9_child_70 : decode cX9_child 70 = .ok (.iconst 2, 1) := by decide +kernel
theorem dX9_child_71 : decode cX9_child 71 = .ok (.if_icmp .ne 15, 3) := by decide +kernel
theorem dX9_child_74 : decode cX9_child 74 = .ok (.aload_n 0, 1) := by decide +kernel
theorem dX9_child_75 : decode cX9_child 75 = .ok (.getfield 19, 3) := by decide +kernel
theorem dX9_child_78 : decode cX9_child 78 = .ok (.bipush 6, 2) := by decide +kernel
theorem dX9_child_80 : decode cX9_child 80 = .ok (.iload_n 1, 1) := by decide +kernel
theorem dX9_child_81 : decode cX9_child 81 = .ok (.iadd, 1) := by decide +kernel
theorem dX9_child_82 : decode cX9_child 82 = .ok (.iaload, 1) := by decide +kernel
theorem dX9_child_83 : decode cX9_child 83 = .ok (.goto 5, 3) := by decide +kernel
theorem dX9_child_86 : decode cX9_child 86 = .ok (.bipush (-4), 2) := by decide +kernel
theorem dX9_child_88 : decode cX9_child 88 = .ok (.ireturn, 1) := by decide +kernel
theorem dX9_child_89 : decode cX9_child 89 = .ok (.aload_n 0, 1) := by decide +kernel
theorem dX9_child_90 : decode cX9_child 90 = .ok (.iload_n 1, 1) := by decide +kernel
theorem dX9_child_91 : decode cX9_child 91 = .ok (.invokevirtual 102, 3) := by decide +kernel
theorem dX9_child_94 : decode cX9_child 94 = .ok (.ireturn, 1) := by decide +kernel
theorem dX9_child_95 : decode cX9_child 95 = .ok (.aload_n 0, 1) := by decide +kernel
theorem dX9_child_96 : decode cX9_child 96 = .ok (.iload_n 1, 1) := by decide +kernel
theorem dX9_child_97 : decode cX9_child 97 = .ok (.invokevirtual 105, 3) := by decide +kernel
theorem dX9_child_100 : decode cX9_child 100 = .ok (.ireturn, 1) := by decide +kernel
theorem dX9_child_101 : decode cX9_child 101 = .ok (.aload_n 0, 1) := by decide +kernel
theorem dX9_child_102 : decode cX9_child 102 = .ok (.getfield 19, 3) := by decide +kernel
theorem dX9_child_105 : decode cX9_child 105 = .ok (.bipush 12, 2) := by decide +kernel
theorem dX9_child_107 : decode cX9_child 107 = .ok (.iload_n 1, 1) := by decide +kernel
theorem dX9_child_108 : decode cX9_child 108 = .ok (.iadd, 1) := by decide +kernel
theorem dX9_child_109 : decode cX9_child 109 = .ok (.iaload, 1) := by decide +kernel
theorem dX9_child_110 : decode cX9_child 110 = .ok (.ireturn, 1) := by decide +kernel
theorem dX9_child_111 : decode cX9_child 111 = .ok (.iconst (-1), 1) := by decide +kernel
theorem dX9_child_112 : decode cX9_child 112 = .ok (.ireturn, 1) := by decide +kernel
theorem dX9_woman_0 : decode cX9_woman 0 = .ok (.aload_n 0, 1) := by decide +kernel
theorem dX9_woman_1 : decode cX9_woman 1 = .ok (.iload_n 1, 1) := by decide +kernel
theorem dX9_woman_2 : decode cX9_woman 2 = .ok (.invokevirtual 108, 3) := by decide +kernel
theorem dX9_woman_5 : decode cX9_woman 5 = .ok (.ifCond .eq 12, 3) := by decide +kernel
theorem dX9_woman_8 : decode cX9_woman 8 = .ok (.iload_n 2, 1) := by decide +kernel
theorem dX9_woman_9 : decode cX9_woman 9 = .ok (.iconst 0, 1) := by decide +kernel
theorem dX9_woman_10 : decode cX9_woman 10 = .ok (.iconst 1, 1) := by decide +kernel
theorem dX9_woman_11 : decode cX9_woman 11 = .ok (.invokestatic 50, 3) := by decide +kernel
theorem dX9_woman_14 : decode cX9_woman 14 = .ok (.ifCond .ne 7, 3) := by decide +kernel
theorem dX9_woman_17 : decode cX9_woman 17 = .ok (.iconst (-1), 1) := by decide +kernel
theorem dX9_woman_18 : decode cX9_woman 18 = .ok (.goto 21, 3) := by decide +kernel
theorem dX9_woman_21 : decode cX9_woman 21 = .ok (.aload_n 0, 1) := by decide +kernel
theorem dX9_woman_22 : decode cX9_woman 22 = .ok (.getfield 19, 3) := by decide +kernel
theorem dX9_woman_25 : decode cX9_woman 25 = .ok (.iload_n 2, 1) := by decide +kernel
theorem dX9_woman_26 : decode cX9_woman 26 = .ok (.ifCond .ne 8, 3) := by decide +kernel
theorem dX9_woman_29 : decode cX9_woman 29 = .ok (.bipush 18, 2) := by decide +kernel
theorem dX9_woman_31 : decode cX9_woman 31 = .ok (.goto 5, 3) := by decide +kernel
theorem dX9_woman_34 : decode cX9_woman 34 = .ok (.bipush 21, 2) := by decide +kernel
theorem dX9_woman_36 : decode cX9_woman 36 = .ok (.iload_n 1, 1) := by decide +kernel
theorem dX9_woman_37 : decode cX9_woman 37 = .ok (.iadd, 1) := by decide +kernel
theorem dX9_woman_38 : decode cX9_woman 38 = .ok (.iaload, 1) := by decide +kernel
theorem dX9_woman_39 : decode cX9_woman 39 = .ok (.ireturn, 1) := by decide +kernel
theorem dX9_keeps_0 : decode cX9_keeps 0 = .ok (.aload_n 0, 1) := by decide +kernel
theorem dX9_keeps_1 : decode cX9_keeps 1 = .ok (.getfield 87, 3) := by decide +kernel
theorem dX9_keeps_4 : decode cX9_keeps 4 = .ok (.bipush 8, 2) := by decide +kernel
theorem dX9_keeps_6 : decode cX9_keeps 6 = .ok (.if_icmp .ne 43, 3) := by decide +kernel
theorem dX9_keeps_9 : decode cX9_keeps 9 = .ok (.iconst 0, 1) := by decide +kernel
theorem dX9_keeps_10 : decode cX9_keeps 10 = .ok (.istore_n 1, 1) := by decide +kernel
theorem dX9_keeps_11 : decode cX9_keeps 11 = .ok (.iload_n 1, 1) := by decide +kernel
theorem dX9_keeps_12 : decode cX9_keeps 12 = .ok (.sipush 203, 3) := by decide +kernel
theorem dX9_keeps_15 : decode cX9_keeps 15 = .ok (.if_icmp .ge 24, 3) := by decide +kernel
theorem dX9_keeps_18 : decode cX9_keeps 18 = .ok (.aload_n 0, 1) := by decide +kernel
theorem dX9_keeps_19 : decode cX9_keeps 19 = .ok (.getfield 22, 3) := by decide +kernel
theorem dX9_keeps_22 : decode cX9_keeps 22 = .ok (.iload_n 1, 1) := by decide +kernel
theorem dX9_keeps_23 : decode cX9_keeps 23 = .ok (.aload_n 0, 1) := by decide +kernel
theorem dX9_keeps_24 : decode cX9_keeps 24 = .ok (.getfield 22, 3) := by decide +kernel
theorem dX9_keeps_27 : decode cX9_keeps 27 = .ok (.iload_n 1, 1) := by decide +kernel
theorem dX9_keeps_28 : decode cX9_keeps 28 = .ok (.bipush 29, 2) := by decide +kernel
theorem dX9_keeps_30 : decode cX9_keeps 30 = .ok (.iadd, 1) := by decide +kernel
theorem dX9_keeps_31 : decode cX9_keeps 31 = .ok (.iaload, 1) := by decide +kernel
theorem dX9_keeps_32 : decode cX9_keeps 32 = .ok (.iastore, 1) := by decide +kernel
theorem dX9_keeps_33 : decode cX9_keeps 33 = .ok (.iinc 1 1, 3) := by decide +kernel
theorem dX9_keeps_36 : decode cX9_keeps 36 = .ok (.goto (-25), 3) := by decide +kernel
theorem dX9_keeps_39 : decode cX9_keeps 39 = .ok (.aload_n 0, 1) := by decide +kernel
theorem dX9_keeps_40 : decode cX9_keeps 40 = .ok (.dup, 1) := by decide +kernel
theorem dX9_keeps_41 : decode cX9_keeps 41 = .ok (.getfield 87, 3) := by decide +kernel
theorem dX9_keeps_44 : decode cX9_keeps 44 = .ok (.iconst 1, 1) := by decide +kernel
theorem dX9_keeps_45 : decode cX9_keeps 45 = .ok (.isub, 1) := by decide +kernel
theorem dX9_keeps_46 : decode cX9_keeps 46 = .ok (.putfield 87, 3) := by decide +kernel
theorem dX9_keeps_49 : decode cX9_keeps 49 = .ok (.iconst 0, 1) := by decide +kernel
theorem dX9_keeps_50 : decode cX9_keeps 50 = .ok (.istore_n 1, 1) := by decide +kernel
theorem dX9_keeps_51 : decode cX9_keeps 51 = .ok (.iload_n 1, 1) := by decide +kernel
theorem dX9_keeps_52 : decode cX9_keeps 52 = .ok (.bipush 29, 2) := by decide +kernel
theorem dX9_keeps_54 : decode cX9_keeps 54 = .ok (.if_icmp .ge 29, 3) := by decide +kernel
theorem dX9_keeps_57 : decode cX9_keeps 57 = .ok (.aload_n 0, 1) := by decide +kernel
theorem dX9_keeps_58 : decode cX9_keeps 58 = .ok (.getfield 22, 3) := by decide +kernel
theorem dX9_keeps_61 : decode cX9_keeps 61 = .ok (.bipush 29, 2) := by decide +kernel
theorem dX9_keeps_63 : decode cX9_keeps 63 = .ok (.aload_n 0, 1) := by decide +kernel
theorem dX9_keeps_64 : decode cX9_keeps 64 = .ok (.getfield 87, 3) := by decide +kernel
theorem dX9_keeps_67 : decode cX9_keeps 67 = .ok (.imul, 1) := by decide +kernel
theorem dX9_keeps_68 : decode cX9_keeps 68 = .ok (.iload_n 1, 1) := by decide +kernel
theorem dX9_keeps_69 : decode cX9_keeps 69 = .ok (.iadd, 1) := by decide +kernel
theorem dX9_keeps_70 : decode cX9_keeps 70 = .ok (.aload_n 0, 1) := by decide +kernel
theorem dX9_keeps_71 : decode cX9_keeps 71 = .ok (.getfield 19, 3) := by decide +kernel
theorem dX9_keeps_74 : decode cX9_keeps 74 = .ok (.iload_n 1, 1) := by decide +kernel
theorem dX9_keeps_75 : decode cX9_keeps 75 = .ok (.iaload, 1) := by decide +kernel
theorem dX9_keeps_76 : decode cX9_keeps 76 = .ok (.iastore, 1) := by decide +kernel
theorem dX9_keeps_77 : decode cX9_keeps 77 = .ok (.iinc 1 1, 3) := by decide +kernel
theorem dX9_keeps_80 : decode cX9_keeps 80 = .ok (.goto (-29), 3) := by decide +kernel
theorem dX9_keeps_83 : decode cX9_keeps 83 = .ok (.aload_n 0, 1) := by decide +kernel
theorem dX9_keeps_84 : decode cX9_keeps 84 = .ok (.dup, 1) := by decide +kernel
theorem dX9_keeps_85 : decode cX9_keeps 85 = .ok (.getfield 87, 3) := by decide +kernel
theorem dX9_keeps_88 : decode cX9_keeps 88 = .ok (.iconst 1, 1) := by decide +kernel
theorem dX9_keeps_89 : decode cX9_keeps 89 = .ok (.iadd, 1) := by decide +kernel
theorem dX9_keeps_90 : decode cX9_keeps 90 = .ok (.putfield 87, 3) := by decide +kernel
theorem dX9_keeps_93 : decode cX9_keeps 93 = .ok (.return_, 1) := by decide +kernel
theorem dX9_begin_0 : decode cX9_begin 0 = .ok (.aload_n 0, 1) := by decide +kernel
theorem dX9_begin_1 : decode cX9_begin 1 = .ok (.getfield 19, 3) := by decide +kernel
theorem dX9_begin_4 : decode cX9_begin 4 = .ok (.bipush 18, 2) := by decide +kernel
theorem dX9_begin_6 : decode cX9_begin 6 = .ok (.iload_n 1, 1) := by decide +kernel
theorem dX9_begin_7 : decode cX9_begin 7 = .ok (.iadd, 1) := by decide +kernel
theorem dX9_begin_8 : decode cX9_begin 8 = .ok (.iload_n 2, 1) := by decide +kernel
theorem dX9_begin_9 : decode cX9_begin 9 = .ok (.iastore, 1) := by decide +kernel
theorem dX9_begin_10 : decode cX9_begin 10 = .ok (.aload_n 0, 1) := by decide +kernel
theorem dX9_begin_11 : decode cX9_begin 11 = .ok (.getfield 19, 3) := by decide +kernel
theorem dX9_begin_14 : decode cX9_begin 14 = .ok (.bipush 21, 2) := by decide +kernel
theorem dX9_begin_16 : decode cX9_begin 16 = .ok (.iload_n 1, 1) := by decide +kernel
theorem dX9_begin_17 : decode cX9_begin 17 = .ok (.iadd, 1) := by decide +kernel
theorem dX9_begin_18 : decode cX9_begin 18 = .ok (.iload_n 3, 1) := by decide +kernel
theorem dX9_begin_19 : decode cX9_begin 19 = .ok (.iastore, 1) := by decide +kernel
theorem dX9_begin_20 : decode cX9_begin 20 = .ok (.aload_n 0, 1) := by decide +kernel
theorem dX9_begin_21 : decode cX9_begin 21 = .ok (.getfield 19, 3) := by decide +kernel
theorem dX9_begin_24 : decode cX9_begin 24 = .ok (.bipush 24, 2) := by decide +kernel
theorem dX9_begin_26 : decode cX9_begin 26 = .ok (.iload_n 1, 1) := by decide +kernel
theorem dX9_begin_27 : decode cX9_begin 27 = .ok (.iadd, 1) := by decide +kernel
theorem dX9_begin_28 : decode cX9_begin 28 = .ok (.iload 4, 2) := by decide +kernel
theorem dX9_begin_30 : decode cX9_begin 30 = .ok (.iastore, 1) := by decide +kernel
theorem dX9_begin_31 : decode cX9_begin 31 = .ok (.return_, 1) := by decide +kernel
theorem dX9_dresses_0 : decode cX9_dresses 0 = .ok (.aload_n 0, 1) := by decide +kernel
theorem dX9_dresses_1 : decode cX9_dresses 1 = .ok (.iload_n 1, 1) := by decide +kernel
theorem dX9_dresses_2 : decode cX9_dresses 2 = .ok (.iconst 1, 1) := by decide +kernel
theorem dX9_dresses_3 : decode cX9_dresses 3 = .ok (.aload_n 0, 1) := by decide +kernel
theorem dX9_dresses_4 : decode cX9_dresses 4 = .ok (.iload_n 2, 1) := by decide +kernel
theorem dX9_dresses_5 : decode cX9_dresses 5 = .ok (.invokevirtual 105, 3) := by decide +kernel
theorem dX9_dresses_8 : decode cX9_dresses 8 = .ok (.iload_n 2, 1) := by decide +kernel
theorem dX9_dresses_9 : decode cX9_dresses 9 = .ok (.invokevirtual 111, 3) := by decide +kernel
theorem dX9_dresses_12 : decode cX9_dresses 12 = .ok (.aload_n 0, 1) := by decide +kernel
theorem dX9_dresses_13 : decode cX9_dresses 13 = .ok (.getfield 19, 3) := by decide +kernel
theorem dX9_dresses_16 : decode cX9_dresses 16 = .ok (.iload_n 2, 1) := by decide +kernel
theorem dX9_dresses_17 : decode cX9_dresses 17 = .ok (.iconst 1, 1) := by decide +kernel
theorem dX9_dresses_18 : decode cX9_dresses 18 = .ok (.iastore, 1) := by decide +kernel
theorem dX9_dresses_19 : decode cX9_dresses 19 = .ok (.return_, 1) := by decide +kernel
theorem dX9_take_0 : decode cX9_take 0 = .ok (.aload_n 0, 1) := by decide +kernel
theorem dX9_take_1 : decode cX9_take 1 = .ok (.iload_n 1, 1) := by decide +kernel
theorem dX9_take_2 : decode cX9_take 2 = .ok (.invokevirtual 108, 3) := by decide +kernel
theorem dX9_take_5 : decode cX9_take 5 = .ok (.ifCond .eq 11, 3) := by decide +kernel
theorem dX9_take_8 : decode cX9_take 8 = .ok (.aload_n 0, 1) := by decide +kernel
theorem dX9_take_9 : decode cX9_take 9 = .ok (.iload_n 2, 1) := by decide +kernel
theorem dX9_take_10 : decode cX9_take 10 = .ok (.invokevirtual 99, 3) := by decide +kernel
theorem dX9_take_13 : decode cX9_take 13 = .ok (.ifCond .ne 5, 3) := by decide +kernel
theorem dX9_take_16 : decode cX9_take 16 = .ok (.iconst (-1), 1) := by decide +kernel
theorem dX9_take_17 : decode cX9_take 17 = .ok (.ireturn, 1) := by decide +kernel
theorem dX9_take_18 : decode cX9_take 18 = .ok (.aload_n 0, 1) := by decide +kernel
theorem dX9_take_19 : decode cX9_take 19 = .ok (.getfield 19, 3) := by decide +kernel
theorem dX9_take_22 : decode cX9_take 22 = .ok (.bipush 18, 2) := by decide +kernel
theorem dX9_take_24 : decode cX9_take 24 = .ok (.iload_n 1, 1) := by decide +kernel
theorem dX9_take_25 : decode cX9_take 25 = .ok (.iadd, 1) := by decide +kernel
theorem dX9_take_26 : decode cX9_take 26 = .ok (.iaload, 1) := by decide +kernel
theorem dX9_take_27 : decode cX9_take 27 = .ok (.ifCond .ne 12, 3) := by decide +kernel
theorem dX9_take_30 : decode cX9_take 30 = .ok (.aload_n 0, 1) := by decide +kernel
theorem dX9_take_31 : decode cX9_take 31 = .ok (.getfield 19, 3) := by decide +kernel
theorem dX9_take_34 : decode cX9_take 34 = .ok (.iload_n 2, 1) := by decide +kernel
theorem dX9_take_35 : decode cX9_take 35 = .ok (.iaload, 1) := by decide +kernel
theorem dX9_take_36 : decode cX9_take 36 = .ok (.ifCond .eq 6, 3) := by decide +kernel
theorem dX9_take_39 : decode cX9_take 39 = .ok (.bipush (-2), 2) := by decide +kernel
theorem dX9_take_41 : decode cX9_take 41 = .ok (.ireturn, 1) := by decide +kernel
theorem dX9_take_42 : decode cX9_take 42 = .ok (.aload_n 0, 1) := by decide +kernel
theorem dX9_take_43 : decode cX9_take 43 = .ok (.invokevirtual 115, 3) := by decide +kernel
theorem dX9_take_46 : decode cX9_take 46 = .ok (.aload_n 0, 1) := by decide +kernel
theorem dX9_take_47 : decode cX9_take 47 = .ok (.iload_n 1, 1) := by decide +kernel
theorem dX9_take_48 : decode cX9_take 48 = .ok (.iload_n 2, 1) := by decide +kernel
theorem dX9_take_49 : decode cX9_take 49 = .ok (.invokevirtual 118, 3) := by decide +kernel
theorem dX9_take_52 : decode cX9_take 52 = .ok (.aload_n 0, 1) := by decide +kernel
theorem dX9_take_53 : decode cX9_take 53 = .ok (.getfield 19, 3) := by decide +kernel
theorem dX9_take_56 : decode cX9_take 56 = .ok (.bipush 21, 2) := by decide +kernel
theorem dX9_take_58 : decode cX9_take 58 = .ok (.iload_n 1, 1) := by decide +kernel
theorem dX9_take_59 : decode cX9_take 59 = .ok (.iadd, 1) := by decide +kernel
theorem dX9_take_60 : decode cX9_take 60 = .ok (.iaload, 1) := by decide +kernel
theorem dX9_take_61 : decode cX9_take 61 = .ok (.ireturn, 1) := by decide +kernel
theorem dX9_isLaid_0 : decode cX9_isLaid 0 = .ok (.aload_n 0, 1) := by decide +kernel
theorem dX9_isLaid_1 : decode cX9_isLaid 1 = .ok (.getfield 19, 3) := by decide +kernel
theorem dX9_isLaid_4 : decode cX9_isLaid 4 = .ok (.bipush 27, 2) := by decide +kernel
theorem dX9_isLaid_6 : decode cX9_isLaid 6 = .ok (.iaload, 1) := by decide +kernel
theorem dX9_isLaid_7 : decode cX9_isLaid 7 = .ok (.iconst 1, 1) := by decide +kernel
theorem dX9_isLaid_8 : decode cX9_isLaid 8 = .ok (.if_icmp .ne 7, 3) := by decide +kernel
theorem dX9_isLaid_11 : decode cX9_isLaid 11 = .ok (.iconst 1, 1) := by decide +kernel
theorem dX9_isLaid_12 : decode cX9_isLaid 12 = .ok (.goto 4, 3) := by decide +kernel
theorem dX9_isLaid_15 : decode cX9_isLaid 15 = .ok (.iconst 0, 1) := by decide +kernel
theorem dX9_isLaid_16 : decode cX9_isLaid 16 = .ok (.istore_n 1, 1) := by decide +kernel
theorem dX9_isLaid_17 : decode cX9_isLaid 17 = .ok (.iconst 0, 1) := by decide +kernel
theorem dX9_isLaid_18 : decode cX9_isLaid 18 = .ok (.istore_n 2, 1) := by decide +kernel
theorem dX9_isLaid_19 : decode cX9_isLaid 19 = .ok (.iload_n 2, 1) := by decide +kernel
theorem dX9_isLaid_20 : decode cX9_isLaid 20 = .ok (.aload_n 0, 1) := by decide +kernel
theorem dX9_isLaid_21 : decode cX9_isLaid 21 = .ok (.getfield 13, 3) := by decide +kernel
theorem dX9_isLaid_24 : decode cX9_isLaid 24 = .ok (.iconst 1, 1) := by decide +kernel
theorem dX9_isLaid_25 : decode cX9_isLaid 25 = .ok (.iaload, 1) := by decide +kernel
theorem dX9_isLaid_26 : decode cX9_isLaid 26 = .ok (.if_icmp .ge 32, 3) := by decide +kernel
theorem dX9_isLaid_29 : decode cX9_isLaid 29 = .ok (.iload_n 1, 1) := by decide +kernel
theorem dX9_isLaid_30 : decode cX9_isLaid 30 = .ok (.ifCond .ne 16, 3) := by decide +kernel
theorem dX9_isLaid_33 : decode cX9_isLaid 33 = .ok (.aload_n 0, 1) := by decide +kernel
theorem dX9_isLaid_34 : decode cX9_isLaid 34 = .ok (.getfield 19, 3) := by decide +kernel
theorem dX9_isLaid_37 : decode cX9_isLaid 37 = .ok (.bipush 18, 2) := by decide +kernel
theorem dX9_isLaid_39 : decode cX9_isLaid 39 = .ok (.iload_n 2, 1) := by decide +kernel
theorem dX9_isLaid_40 : decode cX9_isLaid 40 = .ok (.iadd, 1) := by decide +kernel
theorem dX9_isLaid_41 : decode cX9_isLaid 41 = .ok (.iaload, 1) := by decide +kernel
theorem dX9_isLaid_42 : decode cX9_isLaid 42 = .ok (.iconst 2, 1) := by decide +kernel
theorem dX9_isLaid_43 : decode cX9_isLaid 43 = .ok (.if_icmp .ne 7, 3) := by decide +kernel
theorem dX9_isLaid_46 : decode cX9_isLaid 46 = .ok (.iconst 1, 1) := by decide +kernel
theorem dX9_isLaid_47 : decode cX9_isLaid 47 = .ok (.goto 4, 3) := by decide +kernel
theorem dX9_isLaid_50 : decode cX9_isLaid 50 = .ok (.iconst 0, 1) := by decide +kernel
theorem dX9_isLaid_51 : decode cX9_isLaid 51 = .ok (.istore_n 1, 1) := by decide +kernel
theorem dX9_isLaid_52 : decode cX9_isLaid 52 = .ok (.iinc 2 1, 3) := by decide +kernel
theorem dX9_isLaid_55 : decode cX9_isLaid 55 = .ok (.goto (-36), 3) := by decide +kernel
theorem dX9_isLaid_58 : decode cX9_isLaid 58 = .ok (.iload_n 1, 1) := by decide +kernel
theorem dX9_isLaid_59 : decode cX9_isLaid 59 = .ok (.ireturn, 1) := by decide +kernel
theorem dX9_layOut_0 : decode cX9_layOut 0 = .ok (.aload_n 0, 1) := by decide +kernel
theorem dX9_layOut_1 : decode cX9_layOut 1 = .ok (.iload_n 1, 1) := by decide +kernel
theorem dX9_layOut_2 : decode cX9_layOut 2 = .ok (.invokevirtual 108, 3) := by decide +kernel
theorem dX9_layOut_5 : decode cX9_layOut 5 = .ok (.ifCond .ne 5, 3) := by decide +kernel
theorem dX9_layOut_8 : decode cX9_layOut 8 = .ok (.iconst (-1), 1) := by decide +kernel
theorem dX9_layOut_9 : decode cX9_layOut 9 = .ok (.ireturn, 1) := by decide +kernel
theorem dX9_layOut_10 : decode cX9_layOut 10 = .ok (.aload_n 0, 1) := by decide +kernel
theorem dX9_layOut_11 : decode cX9_layOut 11 = .ok (.getfield 19, 3) := by decide +kernel
theorem dX9_layOut_14 : decode cX9_layOut 14 = .ok (.bipush 18, 2) := by decide +kernel
theorem dX9_layOut_16 : decode cX9_layOut 16 = .ok (.iload_n 1, 1) := by decide +kernel
theorem dX9_layOut_17 : decode cX9_layOut 17 = .ok (.iadd, 1) := by decide +kernel
theorem dX9_layOut_18 : decode cX9_layOut 18 = .ok (.iaload, 1) := by decide +kernel
theorem dX9_layOut_19 : decode cX9_layOut 19 = .ok (.ifCond .ne 10, 3) := by decide +kernel
theorem dX9_layOut_22 : decode cX9_layOut 22 = .ok (.aload_n 0, 1) := by decide +kernel
theorem dX9_layOut_23 : decode cX9_layOut 23 = .ok (.invokevirtual 121, 3) := by decide +kernel
theorem dX9_layOut_26 : decode cX9_layOut 26 = .ok (.ifCond .eq 6, 3) := by decide +kernel
theorem dX9_layOut_29 : decode cX9_layOut 29 = .ok (.bipush (-2), 2) := by decide +kernel
theorem dX9_layOut_31 : decode cX9_layOut 31 = .ok (.ireturn, 1) := by decide +kernel
theorem dX9_layOut_32 : decode cX9_layOut 32 = .ok (.aload_n 0, 1) := by decide +kernel
theorem dX9_layOut_33 : decode cX9_layOut 33 = .ok (.invokevirtual 115, 3) := by decide +kernel
theorem dX9_layOut_36 : decode cX9_layOut 36 = .ok (.aload_n 0, 1) := by decide +kernel
theorem dX9_layOut_37 : decode cX9_layOut 37 = .ok (.iload_n 1, 1) := by decide +kernel
theorem dX9_layOut_38 : decode cX9_layOut 38 = .ok (.iconst 2, 1) := by decide +kernel
theorem dX9_layOut_39 : decode cX9_layOut 39 = .ok (.iconst 3, 1) := by decide +kernel
theorem dX9_layOut_40 : decode cX9_layOut 40 = .ok (.iconst 0, 1) := by decide +kernel
theorem dX9_layOut_41 : decode cX9_layOut 41 = .ok (.invokevirtual 111, 3) := by decide +kernel
theorem dX9_layOut_44 : decode cX9_layOut 44 = .ok (.iconst 3, 1) := by decide +kernel
theorem dX9_layOut_45 : decode cX9_layOut 45 = .ok (.ireturn, 1) := by decide +kernel
theorem dX9_how_0 : decode cX9_how 0 = .ok (.iconst 0, 1) := by decide +kernel
theorem dX9_how_1 : decode cX9_how 1 = .ok (.istore 4, 2) := by decide +kernel
theorem dX9_how_3 : decode cX9_how 3 = .ok (.iconst 0, 1) := by decide +kernel
theorem dX9_how_4 : decode cX9_how 4 = .ok (.istore 5, 2) := by decide +kernel
theorem dX9_how_6 : decode cX9_how 6 = .ok (.iload 5, 2) := by decide +kernel
theorem dX9_how_8 : decode cX9_how 8 = .ok (.iload_n 2, 1) := by decide +kernel
theorem dX9_how_9 : decode cX9_how 9 = .ok (.if_icmp .ge 32, 3) := by decide +kernel
theorem dX9_how_12 : decode cX9_how 12 = .ok (.iload 4, 2) := by decide +kernel
theorem dX9_how_14 : decode cX9_how 14 = .ok (.aload_n 0, 1) := by decide +kernel
theorem dX9_how_15 : decode cX9_how 15 = .ok (.getfield 19, 3) := by decide +kernel
theorem dX9_how_18 : decode cX9_how 18 = .ok (.iload_n 1, 1) := by decide +kernel
theorem dX9_how_19 : decode cX9_how 19 = .ok (.iload 5, 2) := by decide +kernel
theorem dX9_how_21 : decode cX9_how 21 = .ok (.iadd, 1) := by decide +kernel
theorem dX9_how_22 : decode cX9_how 22 = .ok (.iaload, 1) := by decide +kernel
theorem dX9_how_23 : decode cX9_how 23 = .ok (.iload_n 3, 1) := by decide +kernel
theorem dX9_how_24 : decode cX9_how 24 = .ok (.if_icmp .ne 7, 3) := by decide +kernel
theorem dX9_how_27 : decode cX9_how 27 = .ok (.iconst 1, 1) := by decide +kernel
theorem dX9_how_28 : decode cX9_how 28 = .ok (.goto 4, 3) := by decide +kernel
theorem dX9_how_31 : decode cX9_how 31 = .ok (.iconst 0, 1) := by decide +kernel
theorem dX9_how_32 : decode cX9_how 32 = .ok (.iadd, 1) := by decide +kernel
theorem dX9_how_33 : decode cX9_how 33 = .ok (.istore 4, 2) := by decide +kernel
theorem dX9_how_35 : decode cX9_how 35 = .ok (.iinc 5 1, 3) := by decide +kernel
theorem dX9_how_38 : decode cX9_how 38 = .ok (.goto (-32), 3) := by decide +kernel
theorem dX9_how_41 : decode cX9_how 41 = .ok (.iload 4, 2) := by decide +kernel
theorem dX9_how_43 : decode cX9_how 43 = .ok (.ireturn, 1) := by decide +kernel
theorem dX9_children_0 : decode cX9_children 0 = .ok (.aload_n 0, 1) := by decide +kernel
theorem dX9_children_1 : decode cX9_children 1 = .ok (.iconst 0, 1) := by decide +kernel
theorem dX9_children_2 : decode cX9_children 2 = .ok (.aload_n 0, 1) := by decide +kernel
theorem dX9_children_3 : decode cX9_children 3 = .ok (.getfield 13, 3) := by decide +kernel
theorem dX9_children_6 : decode cX9_children 6 = .ok (.iconst 0, 1) := by decide +kernel
theorem dX9_children_7 : decode cX9_children 7 = .ok (.iaload, 1) := by decide +kernel
theorem dX9_children_8 : decode cX9_children 8 = .ok (.iload_n 1, 1) := by decide +kernel
theorem dX9_children_9 : decode cX9_children 9 = .ok (.invokevirtual 125, 3) := by decide +kernel
theorem dX9_children_12 : decode cX9_children 12 = .ok (.ireturn, 1) := by decide +kernel
theorem dX9_notOut_0 : decode cX9_notOut 0 = .ok (.aload_n 0, 1) := by decide +kernel
theorem dX9_notOut_1 : decode cX9_notOut 1 = .ok (.getfield 13, 3) := by decide +kernel
theorem dX9_notOut_4 : decode cX9_notOut 4 = .ok (.iconst 1, 1) := by decide +kernel
theorem dX9_notOut_5 : decode cX9_notOut 5 = .ok (.iaload, 1) := by decide +kernel
theorem dX9_notOut_6 : decode cX9_notOut 6 = .ok (.aload_n 0, 1) := by decide +kernel
theorem dX9_notOut_7 : decode cX9_notOut 7 = .ok (.bipush 18, 2) := by decide +kernel
theorem dX9_notOut_9 : decode cX9_notOut 9 = .ok (.aload_n 0, 1) := by decide +kernel
theorem dX9_notOut_10 : decode cX9_notOut 10 = .ok (.getfield 13, 3) := by decide +kernel
theorem dX9_notOut_13 : decode cX9_notOut 13 = .ok (.iconst 1, 1) := by decide +kernel
theorem dX9_notOut_14 : decode cX9_notOut 14 = .ok (.iaload, 1) := by decide +kernel
theorem dX9_notOut_15 : decode cX9_notOut 15 = .ok (.iconst 3, 1) := by decide +kernel
theorem dX9_notOut_16 : decode cX9_notOut 16 = .ok (.invokevirtual 125, 3) := by decide +kernel
theorem dX9_notOut_19 : decode cX9_notOut 19 = .ok (.isub, 1) := by decide +kernel
theorem dX9_notOut_20 : decode cX9_notOut 20 = .ok (.ireturn, 1) := by decide +kernel
theorem dX9_opens_0 : decode cX9_opens 0 = .ok (.aload_n 0, 1) := by decide +kernel
theorem dX9_opens_1 : decode cX9_opens 1 = .ok (.invokevirtual 128, 3) := by decide +kernel
theorem dX9_opens_4 : decode cX9_opens 4 = .ok (.iconst 1, 1) := by decide +kernel
theorem dX9_opens_5 : decode cX9_opens 5 = .ok (.if_icmp .ne 8, 3) := by decide +kernel
theorem dX9_opens_8 : decode cX9_opens 8 = .ok (.bipush 6, 2) := by decide +kernel
theorem dX9_opens_10 : decode cX9_opens 10 = .ok (.goto 9, 3) := by decide +kernel
theorem dX9_opens_13 : decode cX9_opens 13 = .ok (.aload_n 0, 1) := by decide +kernel
theorem dX9_opens_14 : decode cX9_opens 14 = .ok (.getfield 13, 3) := by decide +kernel
theorem dX9_opens_17 : decode cX9_opens 17 = .ok (.iconst 3, 1) := by decide +kernel
theorem dX9_opens_18 : decode cX9_opens 18 = .ok (.iaload, 1) := by decide +kernel
theorem dX9_opens_19 : decode cX9_opens 19 = .ok (.istore_n 2, 1) := by decide +kernel
theorem dX9_opens_20 : decode cX9_opens 20 = .ok (.iconst 0, 1) := by decide +kernel
theorem dX9_opens_21 : decode cX9_opens 21 = .ok (.istore_n 3, 1) := by decide +kernel
theorem dX9_opens_22 : decode cX9_opens 22 = .ok (.iconst 0, 1) := by decide +kernel
theorem dX9_opens_23 : decode cX9_opens 23 = .ok (.istore 4, 2) := by decide +kernel
theorem dX9_opens_25 : decode cX9_opens 25 = .ok (.iload 4, 2) := by decide +kernel
theorem dX9_opens_27 : decode cX9_opens 27 = .ok (.iload_n 2, 1) := by decide +kernel
theorem dX9_opens_28 : decode cX9_opens 28 = .ok (.if_icmp .ge 116, 3) := by decide +kernel
theorem dX9_opens_31 : decode cX9_opens 31 = .ok (.bipush (-4), 2) := by decide +kernel
theorem dX9_opens_33 : decode cX9_opens 33 = .ok (.istore 5, 2) := by decide +kernel
theorem dX9_opens_35 : decode cX9_opens 35 = .ok (.iconst 0, 1) := by decide +kernel
theorem dX9_opens_36 : decode cX9_opens 36 = .ok (.istore 6, 2) := by decide +kernel
theorem dX9_opens_38 : decode cX9_opens 38 = .ok (.iload 6, 2) := by decide +kernel
theorem dX9_opens_40 : decode cX9_opens 40 = .ok (.aload_n 0, 1) := by decide +kernel
theorem dX9_opens_41 : decode cX9_opens 41 = .ok (.getfield 13, 3) := by decide +kernel
theorem dX9_opens_44 : decode cX9_opens 44 = .ok (.iconst 0, 1) := by decide +kernel
theorem dX9_opens_45 : decode cX9_opens 45 = .ok (.iaload, 1) := by decide +kernel
theorem dX9_opens_46 : decode cX9_opens 46 = .ok (.if_icmp .ge 59, 3) := by decide +kernel
theorem dX9_opens_49 : decode cX9_opens 49 = .ok (.aload_n 0, 1) := by decide +kernel
theorem dX9_opens_50 : decode cX9_opens 50 = .ok (.getfield 19, 3) := by decide +kernel
theorem dX9_opens_53 : decode cX9_opens 53 = .ok (.iload 6, 2) := by decide +kernel
theorem dX9_opens_55 : decode cX9_opens 55 = .ok (.iaload, 1) := by decide +kernel
theorem dX9_opens_56 : decode cX9_opens 56 = .ok (.iconst 2, 1) := by decide +kernel
theorem dX9_opens_57 : decode cX9_opens 57 = .ok (.if_icmp .ne 38, 3) := by decide +kernel
theorem dX9_opens_60 : decode cX9_opens 60 = .ok (.iload 5, 2) := by decide +kernel
theorem dX9_opens_62 : decode cX9_opens 62 = .ok (.bipush (-4), 2) := by decide +kernel
theorem dX9_opens_64 : decode cX9_opens 64 = .ok (.if_icmp .eq 26, 3) := by decide +kernel
theorem dX9_opens_67 : decode cX9_opens 67 = .ok (.aload_n 0, 1) := by decide +kernel
theorem dX9_opens_68 : decode cX9_opens 68 = .ok (.getfield 19, 3) := by decide +kernel
theorem dX9_opens_71 : decode cX9_opens 71 = .ok (.bipush 6, 2) := by decide +kernel
theorem dX9_opens_73 : decode cX9_opens 73 = .ok (.iload 6, 2) := by decide +kernel
theorem dX9_opens_75 : decode cX9_opens 75 = .ok (.iadd, 1) := by decide +kernel
theorem dX9_opens_76 : decode cX9_opens 76 = .ok (.iaload, 1) := by decide +kernel
theorem dX9_opens_77 : decode cX9_opens 77 = .ok (.aload_n 0, 1) := by decide +kernel
theorem dX9_opens_78 : decode cX9_opens 78 = .ok (.getfield 19, 3) := by decide +kernel
theorem dX9_opens_81 : decode cX9_opens 81 = .ok (.bipush 6, 2) := by decide +kernel
theorem dX9_opens_83 : decode cX9_opens 83 = .ok (.iload 5, 2) := by decide +kernel
theorem dX9_opens_85 : decode cX9_opens 85 = .ok (.iadd, 1) := by decide +kernel
theorem dX9_opens_86 : decode cX9_opens 86 = .ok (.iaload, 1) := by decide +kernel
theorem dX9_opens_87 : decode cX9_opens 87 = .ok (.if_icmp .le 8, 3) := by decide +kernel
theorem dX9_opens_90 : decode cX9_opens 90 = .ok (.iload 6, 2) := by decide +kernel
theorem dX9_opens_92 : decode cX9_opens 92 = .ok (.goto 5, 3) := by decide +kernel
theorem dX9_opens_95 : decode cX9_opens 95 = .ok (.iload 5, 2) := by decide +kernel
theorem dX9_opens_97 : decode cX9_opens 97 = .ok (.istore 5, 2) := by decide +kernel
theorem dX9_opens_99 : decode cX9_opens 99 = .ok (.iinc 6 1, 3) := by decide +kernel
theorem dX9_opens_102 : decode cX9_opens 102 = .ok (.goto (-64), 3) := by decide +kernel
theorem dX9_opens_105 : decode cX9_opens 105 = .ok (.iload 5, 2) := by decide +kernel
theorem dX9_opens_107 : decode cX9_opens 107 = .ok (.bipush (-4), 2) := by decide +kernel
theorem dX9_opens_109 : decode cX9_opens 109 = .ok (.if_icmp .eq 29, 3) := by decide +kernel
theorem dX9_opens_112 : decode cX9_opens 112 = .ok (.aload_n 0, 1) := by decide +kernel
theorem dX9_opens_113 : decode cX9_opens 113 = .ok (.getfield 19, 3) := by decide +kernel
theorem dX9_opens_116 : decode cX9_opens 116 = .ok (.iload 5, 2) := by decide +kernel
theorem dX9_opens_118 : decode cX9_opens 118 = .ok (.iconst 3, 1) := by decide +kernel
theorem dX9_opens_119 : decode cX9_opens 119 = .ok (.iastore, 1) := by decide +kernel
theorem dX9_opens_120 : decode cX9_opens 120 = .ok (.aload_n 0, 1) := by decide +kernel
theorem dX9_opens_121 : decode cX9_opens 121 = .ok (.getfield 19, 3) := by decide +kernel
theorem dX9_opens_124 : decode cX9_opens 124 = .ok (.bipush 6, 2) := by decide +kernel
theorem dX9_opens_126 : decode cX9_opens 126 = .ok (.iload 5, 2) := by decide +kernel
theorem dX9_opens_128 : decode cX9_opens 128 = .ok (.iadd, 1) := by decide +kernel
theorem dX9_opens_129 : decode cX9_opens 129 = .ok (.iconst 0, 1) := by decide +kernel
theorem dX9_opens_130 : decode cX9_opens 130 = .ok (.iastore, 1) := by decide +kernel
theorem dX9_opens_131 : decode cX9_opens 131 = .ok (.iload_n 3, 1) := by decide +kernel
theorem dX9_opens_132 : decode cX9_opens 132 = .ok (.iconst 1, 1) := by decide +kernel
theorem dX9_opens_133 : decode cX9_opens 133 = .ok (.iload 5, 2) := by decide +kernel
theorem dX9_opens_135 : decode cX9_opens 135 = .ok (.ishl, 1) := by decide +kernel
theorem dX9_opens_136 : decode cX9_opens 136 = .ok (.ior, 1) := by decide +kernel
theorem dX9_opens_137 : decode cX9_opens 137 = .ok (.istore_n 3, 1) := by decide +kernel
theorem dX9_opens_138 : decode cX9_opens 138 = .ok (.iinc 4 1, 3) := by decide +kernel
theorem dX9_opens_141 : decode cX9_opens 141 = .ok (.goto (-116), 3) := by decide +kernel
theorem dX9_opens_144 : decode cX9_opens 144 = .ok (.aload_n 0, 1) := by decide +kernel
theorem dX9_opens_145 : decode cX9_opens 145 = .ok (.iload_n 1, 1) := by decide +kernel
theorem dX9_opens_146 : decode cX9_opens 146 = .ok (.iconst 3, 1) := by decide +kernel
theorem dX9_opens_147 : decode cX9_opens 147 = .ok (.iconst 0, 1) := by decide +kernel
theorem dX9_opens_148 : decode cX9_opens 148 = .ok (.iconst 0, 1) := by decide +kernel
theorem dX9_opens_149 : decode cX9_opens 149 = .ok (.invokevirtual 111, 3) := by decide +kernel
theorem dX9_opens_152 : decode cX9_opens 152 = .ok (.iload_n 3, 1) := by decide +kernel
theorem dX9_opens_153 : decode cX9_opens 153 = .ok (.ireturn, 1) := by decide +kernel
theorem dX9_door_0 : decode cX9_door 0 = .ok (.aload_n 0, 1) := by decide +kernel
theorem dX9_door_1 : decode cX9_door 1 = .ok (.iload_n 1, 1) := by decide +kernel
theorem dX9_door_2 : decode cX9_door 2 = .ok (.invokevirtual 108, 3) := by decide +kernel
theorem dX9_door_5 : decode cX9_door 5 = .ok (.ifCond .ne 5, 3) := by decide +kernel
theorem dX9_door_8 : decode cX9_door 8 = .ok (.iconst (-1), 1) := by decide +kernel
theorem dX9_door_9 : decode cX9_door 9 = .ok (.ireturn, 1) := by decide +kernel
theorem dX9_door_10 : decode cX9_door 10 = .ok (.aload_n 0, 1) := by decide +kernel
theorem dX9_door_11 : decode cX9_door 11 = .ok (.getfield 19, 3) := by decide +kernel
theorem dX9_door_14 : decode cX9_door 14 = .ok (.bipush 18, 2) := by decide +kernel
theorem dX9_door_16 : decode cX9_door 16 = .ok (.iload_n 1, 1) := by decide +kernel
theorem dX9_door_17 : decode cX9_door 17 = .ok (.iadd, 1) := by decide +kernel
theorem dX9_door_18 : decode cX9_door 18 = .ok (.iaload, 1) := by decide +kernel
theorem dX9_door_19 : decode cX9_door 19 = .ok (.ifCond .ne 11, 3) := by decide +kernel
theorem dX9_door_22 : decode cX9_door 22 = .ok (.aload_n 0, 1) := by decide +kernel
theorem dX9_door_23 : decode cX9_door 23 = .ok (.iconst 2, 1) := by decide +kernel
theorem dX9_door_24 : decode cX9_door 24 = .ok (.invokevirtual 131, 3) := by decide +kernel
theorem dX9_door_27 : decode cX9_door 27 = .ok (.ifCond .ne 6, 3) := by decide +kernel
theorem dX9_door_30 : decode cX9_door 30 = .ok (.bipush (-2), 2) := by decide +kernel
theorem dX9_door_32 : decode cX9_door 32 = .ok (.ireturn, 1) := by decide +kernel
theorem dX9_door_33 : decode cX9_door 33 = .ok (.aload_n 0, 1) := by decide +kernel
theorem dX9_door_34 : decode cX9_door 34 = .ok (.invokevirtual 115, 3) := by decide +kernel
theorem dX9_door_37 : decode cX9_door 37 = .ok (.aload_n 0, 1) := by decide +kernel
theorem dX9_door_38 : decode cX9_door 38 = .ok (.iload_n 1, 1) := by decide +kernel
theorem dX9_door_39 : decode cX9_door 39 = .ok (.invokevirtual 134, 3) := by decide +kernel
theorem dX9_door_42 : decode cX9_door 42 = .ok (.ireturn, 1) := by decide +kernel
theorem dX9_passes_0 : decode cX9_passes 0 = .ok (.iconst 0, 1) := by decide +kernel
theorem dX9_passes_1 : decode cX9_passes 1 = .ok (.istore_n 1, 1) := by decide +kernel
theorem dX9_passes_2 : decode cX9_passes 2 = .ok (.iconst 0, 1) := by decide +kernel
theorem dX9_passes_3 : decode cX9_passes 3 = .ok (.istore_n 2, 1) := by decide +kernel
theorem dX9_passes_4 : decode cX9_passes 4 = .ok (.iload_n 2, 1) := by decide +kernel
theorem dX9_passes_5 : decode cX9_passes 5 = .ok (.aload_n 0, 1) := by decide +kernel
theorem dX9_passes_6 : decode cX9_passes 6 = .ok (.getfield 13, 3) := by decide +kernel
theorem dX9_passes_9 : decode cX9_passes 9 = .ok (.iconst 0, 1) := by decide +kernel
theorem dX9_passes_10 : decode cX9_passes 10 = .ok (.iaload, 1) := by decide +kernel
theorem dX9_passes_11 : decode cX9_passes 11 = .ok (.if_icmp .ge 121, 3) := by decide +kernel
theorem dX9_passes_14 : decode cX9_passes 14 = .ok (.aload_n 0, 1) := by decide +kernel
theorem dX9_passes_15 : decode cX9_passes 15 = .ok (.getfield 19, 3) := by decide +kernel
theorem dX9_passes_18 : decode cX9_passes 18 = .ok (.iload_n 2, 1) := by decide +kernel
theorem dX9_passes_19 : decode cX9_passes 19 = .ok (.iaload, 1) := by decide +kernel
theorem dX9_passes_20 : decode cX9_passes 20 = .ok (.iconst 2, 1) := by decide +kernel
theorem dX9_passes_21 : decode cX9_passes 21 = .ok (.if_icmp .ne 31, 3) := by decide +kernel
theorem dX9_passes_24 : decode cX9_passes 24 = .ok (.aload_n 0, 1) := by decide +kernel
theorem dX9_passes_25 : decode cX9_passes 25 = .ok (.getfield 13, 3) := by decide +kernel
theorem dX9_passes_28 : decode cX9_passes 28 = .ok (.iconst 5, 1) := by decide +kernel
theorem dX9_passes_29 : decode cX9_passes 29 = .ok (.iload_n 2, 1) := by decide +kernel
theorem dX9_passes_30 : decode cX9_passes 30 = .ok (.iadd, 1) := by decide +kernel
theorem dX9_passes_31 : decode cX9_passes 31 = .ok (.iaload, 1) := by decide +kernel
theorem dX9_passes_32 : decode cX9_passes 32 = .ok (.iconst 2, 1) := by decide +kernel
theorem dX9_passes_33 : decode cX9_passes 33 = .ok (.if_icmp .ne 15, 3) := by decide +kernel
theorem dX9_passes_36 : decode cX9_passes 36 = .ok (.aload_n 0, 1) := by decide +kernel
theorem dX9_passes_37 : decode cX9_passes 37 = .ok (.getfield 19, 3) := by decide +kernel
theorem dX9_passes_40 : decode cX9_passes 40 = .ok (.bipush 28, 2) := by decide +kernel
theorem dX9_passes_42 : decode cX9_passes 42 = .ok (.iaload, 1) := by decide +kernel
theorem dX9_passes_43 : decode cX9_passes 43 = .ok (.iconst 2, 1) := by decide +kernel
theorem dX9_passes_44 : decode cX9_passes 44 = .ok (.irem, 1) := by decide +kernel
theorem dX9_passes_45 : decode cX9_passes 45 = .ok (.ifCond .ne 7, 3) := by decide +kernel
theorem dX9_passes_48 : decode cX9_passes 48 = .ok (.iconst 1, 1) := by decide +kernel
theorem dX9_passes_49 : decode cX9_passes 49 = .ok (.goto 4, 3) := by decide +kernel
theorem dX9_passes_52 : decode cX9_passes 52 = .ok (.iconst 0, 1) := by decide +kernel
theorem dX9_passes_53 : decode cX9_passes 53 = .ok (.istore_n 3, 1) := by decide +kernel
theorem dX9_passes_54 : decode cX9_passes 54 = .ok (.aload_n 0, 1) := by decide +kernel
theorem dX9_passes_55 : decode cX9_passes 55 = .ok (.getfield 19, 3) := by decide +kernel
theorem dX9_passes_58 : decode cX9_passes 58 = .ok (.bipush 6, 2) := by decide +kernel
theorem dX9_passes_60 : decode cX9_passes 60 = .ok (.iload_n 2, 1) := by decide +kernel
theorem dX9_passes_61 : decode cX9_passes 61 = .ok (.iadd, 1) := by decide +kernel
theorem dX9_passes_62 : decode cX9_passes 62 = .ok (.dup2, 1) := by decide +kernel
theorem dX9_passes_63 : decode cX9_passes 63 = .ok (.iaload, 1) := by decide +kernel
theorem dX9_passes_64 : decode cX9_passes 64 = .ok (.iload_n 3, 1) := by decide +kernel
theorem dX9_passes_65 : decode cX9_passes 65 = .ok (.ifCond .eq 7, 3) := by decide +kernel
theorem dX9_passes_68 : decode cX9_passes 68 = .ok (.iconst 1, 1) := by decide +kernel
theorem dX9_passes_69 : decode cX9_passes 69 = .ok (.goto 4, 3) := by decide +kernel
theorem dX9_passes_72 : decode cX9_passes 72 = .ok (.iconst 0, 1) := by decide +kernel
theorem dX9_passes_73 : decode cX9_passes 73 = .ok (.iadd, 1) := by decide +kernel
theorem dX9_passes_74 : decode cX9_passes 74 = .ok (.iastore, 1) := by decide +kernel
theorem dX9_passes_75 : decode cX9_passes 75 = .ok (.aload_n 0, 1) := by decide +kernel
theorem dX9_passes_76 : decode cX9_passes 76 = .ok (.getfield 19, 3) := by decide +kernel
theorem dX9_passes_79 : decode cX9_passes 79 = .ok (.bipush 6, 2) := by decide +kernel
theorem dX9_passes_81 : decode cX9_passes 81 = .ok (.iload_n 2, 1) := by decide +kernel
theorem dX9_passes_82 : decode cX9_passes 82 = .ok (.iadd, 1) := by decide +kernel
theorem dX9_passes_83 : decode cX9_passes 83 = .ok (.iaload, 1) := by decide +kernel
theorem dX9_passes_84 : decode cX9_passes 84 = .ok (.aload_n 0, 1) := by decide +kernel
theorem dX9_passes_85 : decode cX9_passes 85 = .ok (.getfield 13, 3) := by decide +kernel
theorem dX9_passes_88 : decode cX9_passes 88 = .ok (.iconst 2, 1) := by decide +kernel
theorem dX9_passes_89 : decode cX9_passes 89 = .ok (.iaload, 1) := by decide +kernel
theorem dX9_passes_90 : decode cX9_passes 90 = .ok (.if_icmp .le 36, 3) := by decide +kernel
theorem dX9_passes_93 : decode cX9_passes 93 = .ok (.aload_n 0, 1) := by decide +kernel
theorem dX9_passes_94 : decode cX9_passes 94 = .ok (.getfield 19, 3) := by decide +kernel
theorem dX9_passes_97 : decode cX9_passes 97 = .ok (.iload_n 2, 1) := by decide +kernel
theorem dX9_passes_98 : decode cX9_passes 98 = .ok (.iconst 0, 1) := by decide +kernel
theorem dX9_passes_99 : decode cX9_passes 99 = .ok (.iastore, 1) := by decide +kernel
theorem dX9_passes_100 : decode cX9_passes 100 = .ok (.aload_n 0, 1) := by decide +kernel
theorem dX9_passes_101 : decode cX9_passes 101 = .ok (.getfield 19, 3) := by decide +kernel
theorem dX9_passes_104 : decode cX9_passes 104 = .ok (.bipush 6, 2) := by decide +kernel
theorem dX9_passes_106 : decode cX9_passes 106 = .ok (.iload_n 2, 1) := by decide +kernel
theorem dX9_passes_107 : decode cX9_passes 107 = .ok (.iadd, 1) := by decide +kernel
theorem dX9_passes_108 : decode cX9_passes 108 = .ok (.iconst 0, 1) := by decide +kernel
theorem dX9_passes_109 : decode cX9_passes 109 = .ok (.iastore, 1) := by decide +kernel
theorem dX9_passes_110 : decode cX9_passes 110 = .ok (.aload_n 0, 1) := by decide +kernel
theorem dX9_passes_111 : decode cX9_passes 111 = .ok (.getfield 19, 3) := by decide +kernel
theorem dX9_passes_114 : decode cX9_passes 114 = .ok (.bipush 12, 2) := by decide +kernel
theorem dX9_passes_116 : decode cX9_passes 116 = .ok (.iload_n 2, 1) := by decide +kernel
theorem dX9_passes_117 : decode cX9_passes 117 = .ok (.iadd, 1) := by decide +kernel
theorem dX9_passes_118 : decode cX9_passes 118 = .ok (.dup2, 1) := by decide +kernel
theorem dX9_passes_119 : decode cX9_passes 119 = .ok (.iaload, 1) := by decide +kernel
theorem dX9_passes_120 : decode cX9_passes 120 = .ok (.iconst 1, 1) := by decide +kernel
theorem dX9_passes_121 : decode cX9_passes 121 = .ok (.iadd, 1) := by decide +kernel
theorem dX9_passes_122 : decode cX9_passes 122 = .ok (.iastore, 1) := by decide +kernel
theorem dX9_passes_123 : decode cX9_passes 123 = .ok (.iinc 1 1, 3) := by decide +kernel
theorem dX9_passes_126 : decode cX9_passes 126 = .ok (.iinc 2 1, 3) := by decide +kernel
theorem dX9_passes_129 : decode cX9_passes 129 = .ok (.goto (-125), 3) := by decide +kernel
theorem dX9_passes_132 : decode cX9_passes 132 = .ok (.iconst 0, 1) := by decide +kernel
theorem dX9_passes_133 : decode cX9_passes 133 = .ok (.istore_n 2, 1) := by decide +kernel
theorem dX9_passes_134 : decode cX9_passes 134 = .ok (.iload_n 2, 1) := by decide +kernel
theorem dX9_passes_135 : decode cX9_passes 135 = .ok (.aload_n 0, 1) := by decide +kernel
theorem dX9_passes_136 : decode cX9_passes 136 = .ok (.getfield 13, 3) := by decide +kernel
theorem dX9_passes_139 : decode cX9_passes 139 = .ok (.iconst 1, 1) := by decide +kernel
theorem dX9_passes_140 : decode cX9_passes 140 = .ok (.iaload, 1) := by decide +kernel
theorem dX9_passes_141 : decode cX9_passes 141 = .ok (.if_icmp .ge 111, 3) := by decide +kernel
theorem dX9_passes_144 : decode cX9_passes 144 = .ok (.aload_n 0, 1) := by decide +kernel
theorem dX9_passes_145 : decode cX9_passes 145 = .ok (.getfield 19, 3) := by decide +kernel
theorem dX9_passes_148 : decode cX9_passes 148 = .ok (.bipush 21, 2) := by decide +kernel
theorem dX9_passes_150 : decode cX9_passes 150 = .ok (.iload_n 2, 1) := by decide +kernel
theorem dX9_passes_151 : decode cX9_passes 151 = .ok (.iadd, 1) := by decide +kernel
theorem dX9_passes_152 : decode cX9_passes 152 = .ok (.iaload, 1) := by decide +kernel
theorem dX9_passes_153 : decode cX9_passes 153 = .ok (.ifCond .le 7, 3) := by decide +kernel
theorem dX9_passes_156 : decode cX9_passes 156 = .ok (.iconst 1, 1) := by decide +kernel
theorem dX9_passes_157 : decode cX9_passes 157 = .ok (.goto 4, 3) := by decide +kernel
theorem dX9_passes_160 : decode cX9_passes 160 = .ok (.iconst 0, 1) := by decide +kernel
theorem dX9_passes_161 : decode cX9_passes 161 = .ok (.istore_n 3, 1) := by decide +kernel
theorem dX9_passes_162 : decode cX9_passes 162 = .ok (.aload_n 0, 1) := by decide +kernel
theorem dX9_passes_163 : decode cX9_passes 163 = .ok (.getfield 19, 3) := by decide +kernel
theorem dX9_passes_166 : decode cX9_passes 166 = .ok (.bipush 21, 2) := by decide +kernel
theorem dX9_passes_168 : decode cX9_passes 168 = .ok (.iload_n 2, 1) := by decide +kernel
theorem dX9_passes_169 : decode cX9_passes 169 = .ok (.iadd, 1) := by decide +kernel
theorem dX9_passes_170 : decode cX9_passes 170 = .ok (.dup2, 1) := by decide +kernel
theorem dX9_passes_171 : decode cX9_passes 171 = .ok (.iaload, 1) := by decide +kernel
theorem dX9_passes_172 : decode cX9_passes 172 = .ok (.iload_n 3, 1) := by decide +kernel
theorem dX9_passes_173 : decode cX9_passes 173 = .ok (.ifCond .eq 7, 3) := by decide +kernel
theorem dX9_passes_176 : decode cX9_passes 176 = .ok (.iconst 1, 1) := by decide +kernel
theorem dX9_passes_177 : decode cX9_passes 177 = .ok (.goto 4, 3) := by decide +kernel
theorem dX9_passes_180 : decode cX9_passes 180 = .ok (.iconst 0, 1) := by decide +kernel
theorem dX9_passes_181 : decode cX9_passes 181 = .ok (.isub, 1) := by decide +kernel
theorem dX9_passes_182 : decode cX9_passes 182 = .ok (.iastore, 1) := by decide +kernel
theorem dX9_passes_183 : decode cX9_passes 183 = .ok (.iload_n 3, 1) := by decide +kernel
theorem dX9_passes_184 : decode cX9_passes 184 = .ok (.ifCond .eq 62, 3) := by decide +kernel
theorem dX9_passes_187 : decode cX9_passes 187 = .ok (.aload_n 0, 1) := by decide +kernel
theorem dX9_passes_188 : decode cX9_passes 188 = .ok (.getfield 19, 3) := by decide +kernel
theorem dX9_passes_191 : decode cX9_passes 191 = .ok (.bipush 21, 2) := by decide +kernel
theorem dX9_passes_193 : decode cX9_passes 193 = .ok (.iload_n 2, 1) := by decide +kernel
theorem dX9_passes_194 : decode cX9_passes 194 = .ok (.iadd, 1) := by decide +kernel
theorem dX9_passes_195 : decode cX9_passes 195 = .ok (.iaload, 1) := by decide +kernel
theorem dX9_passes_196 : decode cX9_passes 196 = .ok (.ifCond .ne 50, 3) := by decide +kernel
theorem dX9_passes_199 : decode cX9_passes 199 = .ok (.aload_n 0, 1) := by decide +kernel
theorem dX9_passes_200 : decode cX9_passes 200 = .ok (.getfield 19, 3) := by decide +kernel
theorem dX9_passes_203 : decode cX9_passes 203 = .ok (.bipush 18, 2) := by decide +kernel
theorem dX9_passes_205 : decode cX9_passes 205 = .ok (.iload_n 2, 1) := by decide +kernel
theorem dX9_passes_206 : decode cX9_passes 206 = .ok (.iadd, 1) := by decide +kernel
theorem dX9_passes_207 : decode cX9_passes 207 = .ok (.iaload, 1) := by decide +kernel
theorem dX9_passes_208 : decode cX9_passes 208 = .ok (.iconst 1, 1) := by decide +kernel
theorem dX9_passes_209 : decode cX9_passes 209 = .ok (.if_icmp .ne 21, 3) := by decide +kernel
theorem dX9_passes_212 : decode cX9_passes 212 = .ok (.aload_n 0, 1) := by decide +kernel
theorem dX9_passes_213 : decode cX9_passes 213 = .ok (.getfield 19, 3) := by decide +kernel
theorem dX9_passes_216 : decode cX9_passes 216 = .ok (.aload_n 0, 1) := by decide +kernel
theorem dX9_passes_217 : decode cX9_passes 217 = .ok (.getfield 19, 3) := by decide +kernel
theorem dX9_passes_220 : decode cX9_passes 220 = .ok (.bipush 24, 2) := by decide +kernel
theorem dX9_passes_222 : decode cX9_passes 222 = .ok (.iload_n 2, 1) := by decide +kernel
theorem dX9_passes_223 : decode cX9_passes 223 = .ok (.iadd, 1) := by decide +kernel
theorem dX9_passes_224 : decode cX9_passes 224 = .ok (.iaload, 1) := by decide +kernel
theorem dX9_passes_225 : decode cX9_passes 225 = .ok (.iconst 2, 1) := by decide +kernel
theorem dX9_passes_226 : decode cX9_passes 226 = .ok (.iastore, 1) := by decide +kernel
theorem dX9_passes_227 : decode cX9_passes 227 = .ok (.goto 11, 3) := by decide +kernel
theorem dX9_passes_230 : decode cX9_passes 230 = .ok (.aload_n 0, 1) := by decide +kernel
theorem dX9_passes_231 : decode cX9_passes 231 = .ok (.getfield 19, 3) := by decide +kernel
theorem dX9_passes_234 : decode cX9_passes 234 = .ok (.bipush 27, 2) := by decide +kernel
theorem dX9_passes_236 : decode cX9_passes 236 = .ok (.iconst 1, 1) := by decide +kernel
theorem dX9_passes_237 : decode cX9_passes 237 = .ok (.iastore, 1) := by decide +kernel
theorem dX9_passes_238 : decode cX9_passes 238 = .ok (.aload_n 0, 1) := by decide +kernel
theorem dX9_passes_239 : decode cX9_passes 239 = .ok (.iload_n 2, 1) := by decide +kernel
theorem dX9_passes_240 : decode cX9_passes 240 = .ok (.iconst 0, 1) := by decide +kernel
theorem dX9_passes_241 : decode cX9_passes 241 = .ok (.iconst 0, 1) := by decide +kernel
theorem dX9_passes_242 : decode cX9_passes 242 = .ok (.iconst 0, 1) := by decide +kernel
theorem dX9_passes_243 : decode cX9_passes 243 = .ok (.invokevirtual 111, 3) := by decide +kernel
theorem dX9_passes_246 : decode cX9_passes 246 = .ok (.iinc 2 1, 3) := by decide +kernel
theorem dX9_passes_249 : decode cX9_passes 249 = .ok (.goto (-115), 3) := by decide +kernel
theorem dX9_passes_252 : decode cX9_passes 252 = .ok (.aload_n 0, 1) := by decide +kernel
theorem dX9_passes_253 : decode cX9_passes 253 = .ok (.getfield 19, 3) := by decide +kernel
theorem dX9_passes_256 : decode cX9_passes 256 = .ok (.bipush 28, 2) := by decide +kernel
theorem dX9_passes_258 : decode cX9_passes 258 = .ok (.dup2, 1) := by decide +kernel
theorem dX9_passes_259 : decode cX9_passes 259 = .ok (.iaload, 1) := by decide +kernel
theorem dX9_passes_260 : decode cX9_passes 260 = .ok (.iconst 1, 1) := by decide +kernel
theorem dX9_passes_261 : decode cX9_passes 261 = .ok (.iadd, 1) := by decide +kernel
theorem dX9_passes_262 : decode cX9_passes 262 = .ok (.iastore, 1) := by decide +kernel
theorem dX9_passes_263 : decode cX9_passes 263 = .ok (.iload_n 1, 1) := by decide +kernel
theorem dX9_passes_264 : decode cX9_passes 264 = .ok (.ireturn, 1) := by decide +kernel
theorem dX9_pass_0 : decode cX9_pass 0 = .ok (.iload_n 1, 1) := by decide +kernel
theorem dX9_pass_1 : decode cX9_pass 1 = .ok (.iconst 1, 1) := by decide +kernel
theorem dX9_pass_2 : decode cX9_pass 2 = .ok (.bipush 40, 2) := by decide +kernel
theorem dX9_pass_4 : decode cX9_pass 4 = .ok (.invokestatic 50, 3) := by decide +kernel
theorem dX9_pass_7 : decode cX9_pass 7 = .ok (.ifCond .ne 5, 3) := by decide +kernel
theorem dX9_pass_10 : decode cX9_pass 10 = .ok (.iconst (-1), 1) := by decide +kernel
theorem dX9_pass_11 : decode cX9_pass 11 = .ok (.ireturn, 1) := by decide +kernel
theorem dX9_pass_12 : decode cX9_pass 12 = .ok (.aload_n 0, 1) := by decide +kernel
theorem dX9_pass_13 : decode cX9_pass 13 = .ok (.getfield 19, 3) := by decide +kernel
theorem dX9_pass_16 : decode cX9_pass 16 = .ok (.bipush 28, 2) := by decide +kernel
theorem dX9_pass_18 : decode cX9_pass 18 = .ok (.iaload, 1) := by decide +kernel
theorem dX9_pass_19 : decode cX9_pass 19 = .ok (.iload_n 1, 1) := by decide +kernel
theorem dX9_pass_20 : decode cX9_pass 20 = .ok (.iadd, 1) := by decide +kernel
theorem dX9_pass_21 : decode cX9_pass 21 = .ok (.sipush 999, 3) := by decide +kernel
theorem dX9_pass_24 : decode cX9_pass 24 = .ok (.if_icmp .le 6, 3) := by decide +kernel
theorem dX9_pass_27 : decode cX9_pass 27 = .ok (.bipush (-2), 2) := by decide +kernel
theorem dX9_pass_29 : decode cX9_pass 29 = .ok (.ireturn, 1) := by decide +kernel
theorem dX9_pass_30 : decode cX9_pass 30 = .ok (.aload_n 0, 1) := by decide +kernel
theorem dX9_pass_31 : decode cX9_pass 31 = .ok (.invokevirtual 115, 3) := by decide +kernel
theorem dX9_pass_34 : decode cX9_pass 34 = .ok (.iconst 0, 1) := by decide +kernel
theorem dX9_pass_35 : decode cX9_pass 35 = .ok (.istore_n 2, 1) := by decide +kernel
theorem dX9_pass_36 : decode cX9_pass 36 = .ok (.iconst 0, 1) := by decide +kernel
theorem dX9_pass_37 : decode cX9_pass 37 = .ok (.istore_n 3, 1) := by decide +kernel
theorem dX9_pass_38 : decode cX9_pass 38 = .ok (.iload_n 3, 1) := by decide +kernel
theorem dX9_pass_39 : decode cX9_pass 39 = .ok (.iload_n 1, 1) := by decide +kernel
theorem dX9_pass_40 : decode cX9_pass 40 = .ok (.if_icmp .ge 16, 3) := by decide +kernel
theorem dX9_pass_43 : decode cX9_pass 43 = .ok (.iload_n 2, 1) := by decide +kernel
theorem dX9_pass_44 : decode cX9_pass 44 = .ok (.aload_n 0, 1) := by decide +kernel
theorem dX9_pass_45 : decode cX9_pass 45 = .ok (.invokevirtual 137, 3) := by decide +kernel
theorem dX9_pass_48 : decode cX9_pass 48 = .ok (.iadd, 1) := by decide +kernel
theorem dX9_pass_49 : decode cX9_pass 49 = .ok (.istore_n 2, 1) := by decide +kernel
theorem dX9_pass_50 : decode cX9_pass 50 = .ok (.iinc 3 1, 3) := by decide +kernel
theorem dX9_pass_53 : decode cX9_pass 53 = .ok (.goto (-15), 3) := by decide +kernel
theorem dX9_pass_56 : decode cX9_pass 56 = .ok (.iload_n 2, 1) := by decide +kernel
theorem dX9_pass_57 : decode cX9_pass 57 = .ok (.ireturn, 1) := by decide +kernel
theorem dX9_undo_0 : decode cX9_undo 0 = .ok (.aload_n 0, 1) := by decide +kernel
theorem dX9_undo_1 : decode cX9_undo 1 = .ok (.getfield 87, 3) := by decide +kernel
theorem dX9_undo_4 : decode cX9_undo 4 = .ok (.ifCond .ne 6, 3) := by decide +kernel
theorem dX9_undo_7 : decode cX9_undo 7 = .ok (.bipush (-2), 2) := by decide +kernel
theorem dX9_undo_9 : decode cX9_undo 9 = .ok (.ireturn, 1) := by decide +kernel
theorem dX9_undo_10 : decode cX9_undo 10 = .ok (.aload_n 0, 1) := by decide +kernel
theorem dX9_undo_11 : decode cX9_undo 11 = .ok (.dup, 1) := by decide +kernel
theorem dX9_undo_12 : decode cX9_undo 12 = .ok (.getfield 87, 3) := by decide +kernel
theorem dX9_undo_15 : decode cX9_undo 15 = .ok (.iconst 1, 1) := by decide +kernel
theorem dX9_undo_16 : decode cX9_undo 16 = .ok (.isub, 1) := by decide +kernel
theorem dX9_undo_17 : decode cX9_undo 17 = .ok (.putfield 87, 3) := by decide +kernel
theorem dX9_undo_20 : decode cX9_undo 20 = .ok (.iconst 0, 1) := by decide +kernel
theorem dX9_undo_21 : decode cX9_undo 21 = .ok (.istore_n 1, 1) := by decide +kernel
theorem dX9_undo_22 : decode cX9_undo 22 = .ok (.iload_n 1, 1) := by decide +kernel
theorem dX9_undo_23 : decode cX9_undo 23 = .ok (.bipush 29, 2) := by decide +kernel
theorem dX9_undo_25 : decode cX9_undo 25 = .ok (.if_icmp .ge 29, 3) := by decide +kernel
theorem dX9_undo_28 : decode cX9_undo 28 = .ok (.aload_n 0, 1) := by decide +kernel
theorem dX9_undo_29 : decode cX9_undo 29 = .ok (.getfield 19, 3) := by decide +kernel
theorem dX9_undo_32 : decode cX9_undo 32 = .ok (.iload_n 1, 1) := by decide +kernel
theorem dX9_undo_33 : decode cX9_undo 33 = .ok (.aload_n 0, 1) := by decide +kernel
theorem dX9_undo_34 : decode cX9_undo 34 = .ok (.getfield 22, 3) := by decide +kernel
theorem dX9_undo_37 : decode cX9_undo 37 = .ok (.bipush 29, 2) := by decide +kernel
theorem dX9_undo_39 : decode cX9_undo 39 = .ok (.aload_n 0, 1) := by decide +kernel
theorem dX9_undo_40 : decode cX9_undo 40 = .ok (.getfield 87, 3) := by decide +kernel
theorem dX9_undo_43 : decode cX9_undo 43 = .ok (.imul, 1) := by decide +kernel
theorem dX9_undo_44 : decode cX9_undo 44 = .ok (.iload_n 1, 1) := by decide +kernel
theorem dX9_undo_45 : decode cX9_undo 45 = .ok (.iadd, 1) := by decide +kernel
theorem dX9_undo_46 : decode cX9_undo 46 = .ok (.iaload, 1) := by decide +kernel
theorem dX9_undo_47 : decode cX9_undo 47 = .ok (.iastore, 1) := by decide +kernel
theorem dX9_undo_48 : decode cX9_undo 48 = .ok (.iinc 1 1, 3) := by decide +kernel
theorem dX9_undo_51 : decode cX9_undo 51 = .ok (.goto (-29), 3) := by decide +kernel
theorem dX9_undo_54 : decode cX9_undo 54 = .ok (.aload_n 0, 1) := by decide +kernel
theorem dX9_undo_55 : decode cX9_undo 55 = .ok (.getfield 87, 3) := by decide +kernel
theorem dX9_undo_58 : decode cX9_undo 58 = .ok (.ireturn, 1) := by decide +kernel
theorem dX9_holds_0 : decode cX9_holds 0 = .ok (.iconst 0, 1) := by decide +kernel
theorem dX9_holds_1 : decode cX9_holds 1 = .ok (.istore_n 1, 1) := by decide +kernel
theorem dX9_holds_2 : decode cX9_holds 2 = .ok (.iload_n 1, 1) := by decide +kernel
theorem dX9_holds_3 : decode cX9_holds 3 = .ok (.bipush 29, 2) := by decide +kernel
theorem dX9_holds_5 : decode cX9_holds 5 = .ok (.if_icmp .ge 21, 3) := by decide +kernel
theorem dX9_holds_8 : decode cX9_holds 8 = .ok (.aload_n 0, 1) := by decide +kernel
theorem dX9_holds_9 : decode cX9_holds 9 = .ok (.getfield 31, 3) := by decide +kernel
theorem dX9_holds_12 : decode cX9_holds 12 = .ok (.iload_n 1, 1) := by decide +kernel
theorem dX9_holds_13 : decode cX9_holds 13 = .ok (.aload_n 0, 1) := by decide +kernel
theorem dX9_holds_14 : decode cX9_holds 14 = .ok (.getfield 19, 3) := by decide +kernel
theorem dX9_holds_17 : decode cX9_holds 17 = .ok (.iload_n 1, 1) := by decide +kernel
theorem dX9_holds_18 : decode cX9_holds 18 = .ok (.iaload, 1) := by decide +kernel
theorem dX9_holds_19 : decode cX9_holds 19 = .ok (.iastore, 1) := by decide +kernel
theorem dX9_holds_20 : decode cX9_holds 20 = .ok (.iinc 1 1, 3) := by decide +kernel
theorem dX9_holds_23 : decode cX9_holds 23 = .ok (.goto (-21), 3) := by decide +kernel
theorem dX9_holds_26 : decode cX9_holds 26 = .ok (.return_, 1) := by decide +kernel
theorem dX9_lets_0 : decode cX9_lets 0 = .ok (.iconst 0, 1) := by decide +kernel
theorem dX9_lets_1 : decode cX9_lets 1 = .ok (.istore_n 1, 1) := by decide +kernel
theorem dX9_lets_2 : decode cX9_lets 2 = .ok (.iload_n 1, 1) := by decide +kernel
theorem dX9_lets_3 : decode cX9_lets 3 = .ok (.bipush 29, 2) := by decide +kernel
theorem dX9_lets_5 : decode cX9_lets 5 = .ok (.if_icmp .ge 21, 3) := by decide +kernel
theorem dX9_lets_8 : decode cX9_lets 8 = .ok (.aload_n 0, 1) := by decide +kernel
theorem dX9_lets_9 : decode cX9_lets 9 = .ok (.getfield 19, 3) := by decide +kernel
theorem dX9_lets_12 : decode cX9_lets 12 = .ok (.iload_n 1, 1) := by decide +kernel
theorem dX9_lets_13 : decode cX9_lets 13 = .ok (.aload_n 0, 1) := by decide +kernel
theorem dX9_lets_14 : decode cX9_lets 14 = .ok (.getfield 31, 3) := by decide +kernel
theorem dX9_lets_17 : decode cX9_lets 17 = .ok (.iload_n 1, 1) := by decide +kernel
theorem dX9_lets_18 : decode cX9_lets 18 = .ok (.iaload, 1) := by decide +kernel
theorem dX9_lets_19 : decode cX9_lets 19 = .ok (.iastore, 1) := by decide +kernel
theorem dX9_lets_20 : decode cX9_lets 20 = .ok (.iinc 1 1, 3) := by decide +kernel
theorem dX9_lets_23 : decode cX9_lets 23 = .ok (.goto (-21), 3) := by decide +kernel
theorem dX9_lets_26 : decode cX9_lets 26 = .ok (.return_, 1) := by decide +kernel
theorem dX9_lowestFree_0 : decode cX9_lowestFree 0 = .ok (.bipush (-4), 2) := by decide +kernel
theorem dX9_lowestFree_2 : decode cX9_lowestFree 2 = .ok (.istore_n 1, 1) := by decide +kernel
theorem dX9_lowestFree_3 : decode cX9_lowestFree 3 = .ok (.aload_n 0, 1) := by decide +kernel
theorem dX9_lowestFree_4 : decode cX9_lowestFree 4 = .ok (.getfield 13, 3) := by decide +kernel
theorem dX9_lowestFree_7 : decode cX9_lowestFree 7 = .ok (.iconst 1, 1) := by decide +kernel
theorem dX9_lowestFree_8 : decode cX9_lowestFree 8 = .ok (.iaload, 1) := by decide +kernel
theorem dX9_lowestFree_9 : decode cX9_lowestFree 9 = .ok (.iconst 1, 1) := by decide +kernel
theorem dX9_lowestFree_10 : decode cX9_lowestFree 10 = .ok (.isub, 1) := by decide +kernel
theorem dX9_lowestFree_11 : decode cX9_lowestFree 11 = .ok (.istore_n 2, 1) := by decide +kernel
theorem dX9_lowestFree_12 : decode cX9_lowestFree 12 = .ok (.iload_n 2, 1) := by decide +kernel
theorem dX9_lowestFree_13 : decode cX9_lowestFree 13 = .ok (.ifCond .lt 27, 3) := by decide +kernel
theorem dX9_lowestFree_16 : decode cX9_lowestFree 16 = .ok (.aload_n 0, 1) := by decide +kernel
theorem dX9_lowestFree_17 : decode cX9_lowestFree 17 = .ok (.getfield 19, 3) := by decide +kernel
theorem dX9_lowestFree_20 : decode cX9_lowestFree 20 = .ok (.bipush 18, 2) := by decide +kernel
theorem dX9_lowestFree_22 : decode cX9_lowestFree 22 = .ok (.iload_n 2, 1) := by decide +kernel
theorem dX9_lowestFree_23 : decode cX9_lowestFree 23 = .ok (.iadd, 1) := by decide +kernel
theorem dX9_lowestFree_24 : decode cX9_lowestFree 24 = .ok (.iaload, 1) := by decide +kernel
theorem dX9_lowestFree_25 : decode cX9_lowestFree 25 = .ok (.ifCond .ne 7, 3) := by decide +kernel
theorem dX9_lowestFree_28 : decode cX9_lowestFree 28 = .ok (.iload_n 2, 1) := by decide +kernel
theorem dX9_lowestFree_29 : decode cX9_lowestFree 29 = .ok (.goto 4, 3) := by decide +kernel
theorem dX9_lowestFree_32 : decode cX9_lowestFree 32 = .ok (.iload_n 1, 1) := by decide +kernel
theorem dX9_lowestFree_33 : decode cX9_lowestFree 33 = .ok (.istore_n 1, 1) := by decide +kernel
theorem dX9_lowestFree_34 : decode cX9_lowestFree 34 = .ok (.iinc 2 (-1), 3) := by decide +kernel
theorem dX9_lowestFree_37 : decode cX9_lowestFree 37 = .ok (.goto (-25), 3) := by decide +kernel
theorem dX9_lowestFree_40 : decode cX9_lowestFree 40 = .ok (.iload_n 1, 1) := by decide +kernel
theorem dX9_lowestFree_41 : decode cX9_lowestFree 41 = .ok (.ireturn, 1) := by decide +kernel
theorem dX9_highestFree_0 : decode cX9_highestFree 0 = .ok (.bipush (-4), 2) := by decide +kernel
theorem dX9_highestFree_2 : decode cX9_highestFree 2 = .ok (.istore_n 1, 1) := by decide +kernel
theorem dX9_highestFree_3 : decode cX9_highestFree 3 = .ok (.iconst 0, 1) := by decide +kernel
theorem dX9_highestFree_4 : decode cX9_highestFree 4 = .ok (.istore_n 2, 1) := by decide +kernel
theorem dX9_highestFree_5 : decode cX9_highestFree 5 = .ok (.iload_n 2, 1) := by decide +kernel
theorem dX9_highestFree_6 : decode cX9_highestFree 6 = .ok (.aload_n 0, 1) := by decide +kernel
theorem dX9_highestFree_7 : decode cX9_highestFree 7 = .ok (.getfield 13, 3) := by decide +kernel
theorem dX9_highestFree_10 : decode cX9_highestFree 10 = .ok (.iconst 1, 1) := by decide +kernel
theorem dX9_highestFree_11 : decode cX9_highestFree 11 = .ok (.iaload, 1) := by decide +kernel
theorem dX9_highestFree_12 : decode cX9_highestFree 12 = .ok (.if_icmp .ge 27, 3) := by decide +kernel
theorem dX9_highestFree_15 : decode cX9_highestFree 15 = .ok (.aload_n 0, 1) := by decide +kernel
theorem dX9_highestFree_16 : decode cX9_highestFree 16 = .ok (.getfield 19, 3) := by decide +kernel
theorem dX9_highestFree_19 : decode cX9_highestFree 19 = .ok (.bipush 18, 2) := by decide +kernel
theorem dX9_highestFree_21 : decode cX9_highestFree 21 = .ok (.iload_n 2, 1) := by decide +kernel
theorem dX9_highestFree_22 : decode cX9_highestFree 22 = .ok (.iadd, 1) := by decide +kernel
theorem dX9_highestFree_23 : decode cX9_highestFree 23 = .ok (.iaload, 1) := by decide +kernel
theorem dX9_highestFree_24 : decode cX9_highestFree 24 = .ok (.ifCond .ne 7, 3) := by decide +kernel
theorem dX9_highestFree_27 : decode cX9_highestFree 27 = .ok (.iload_n 2, 1) := by decide +kernel
theorem dX9_highestFree_28 : decode cX9_highestFree 28 = .ok (.goto 4, 3) := by decide +kernel
theorem dX9_highestFree_31 : decode cX9_highestFree 31 = .ok (.iload_n 1, 1) := by decide +kernel
theorem dX9_highestFree_32 : decode cX9_highestFree 32 = .ok (.istore_n 1, 1) := by decide +kernel
theorem dX9_highestFree_33 : decode cX9_highestFree 33 = .ok (.iinc 2 1, 3) := by decide +kernel
theorem dX9_highestFree_36 : decode cX9_highestFree 36 = .ok (.goto (-31), 3) := by decide +kernel
theorem dX9_highestFree_39 : decode cX9_highestFree 39 = .ok (.iload_n 1, 1) := by decide +kernel
theorem dX9_highestFree_40 : decode cX9_highestFree 40 = .ok (.ireturn, 1) := by decide +kernel
theorem dX9_mayOpen_0 : decode cX9_mayOpen 0 = .ok (.aload_n 0, 1) := by decide +kernel
theorem dX9_mayOpen_1 : decode cX9_mayOpen 1 = .ok (.iconst 2, 1) := by decide +kernel
theorem dX9_mayOpen_2 : decode cX9_mayOpen 2 = .ok (.invokevirtual 131, 3) := by decide +kernel
theorem dX9_mayOpen_5 : decode cX9_mayOpen 5 = .ok (.istore_n 1, 1) := by decide +kernel
theorem dX9_mayOpen_6 : decode cX9_mayOpen 6 = .ok (.iload_n 1, 1) := by decide +kernel
theorem dX9_mayOpen_7 : decode cX9_mayOpen 7 = .ok (.aload_n 0, 1) := by decide +kernel
theorem dX9_mayOpen_8 : decode cX9_mayOpen 8 = .ok (.getfield 13, 3) := by decide +kernel
theorem dX9_mayOpen_11 : decode cX9_mayOpen 11 = .ok (.iconst 3, 1) := by decide +kernel
theorem dX9_mayOpen_12 : decode cX9_mayOpen 12 = .ok (.iaload, 1) := by decide +kernel
theorem dX9_mayOpen_13 : decode cX9_mayOpen 13 = .ok (.if_icmp .lt 15, 3) := by decide +kernel
theorem dX9_mayOpen_16 : decode cX9_mayOpen 16 = .ok (.aload_n 0, 1) := by decide +kernel
theorem dX9_mayOpen_17 : decode cX9_mayOpen 17 = .ok (.invokevirtual 128, 3) := by decide +kernel
theorem dX9_mayOpen_20 : decode cX9_mayOpen 20 = .ok (.iconst 1, 1) := by decide +kernel
theorem dX9_mayOpen_21 : decode cX9_mayOpen 21 = .ok (.if_icmp .le 7, 3) := by decide +kernel
theorem dX9_mayOpen_24 : decode cX9_mayOpen 24 = .ok (.iconst 1, 1) := by decide +kernel
theorem dX9_mayOpen_25 : decode cX9_mayOpen 25 = .ok (.goto 4, 3) := by decide +kernel
theorem dX9_mayOpen_28 : decode cX9_mayOpen 28 = .ok (.iconst 0, 1) := by decide +kernel
theorem dX9_mayOpen_29 : decode cX9_mayOpen 29 = .ok (.istore_n 2, 1) := by decide +kernel
theorem dX9_mayOpen_30 : decode cX9_mayOpen 30 = .ok (.iload_n 1, 1) := by decide +kernel
theorem dX9_mayOpen_31 : decode cX9_mayOpen 31 = .ok (.ifCond .le 23, 3) := by decide +kernel
theorem dX9_mayOpen_34 : decode cX9_mayOpen 34 = .ok (.iload_n 1, 1) := by decide +kernel
theorem dX9_mayOpen_35 : decode cX9_mayOpen 35 = .ok (.aload_n 0, 1) := by decide +kernel
theorem dX9_mayOpen_36 : decode cX9_mayOpen 36 = .ok (.iconst 3, 1) := by decide +kernel
theorem dX9_mayOpen_37 : decode cX9_mayOpen 37 = .ok (.invokevirtual 131, 3) := by decide +kernel
theorem dX9_mayOpen_40 : decode cX9_mayOpen 40 = .ok (.iadd, 1) := by decide +kernel
theorem dX9_mayOpen_41 : decode cX9_mayOpen 41 = .ok (.aload_n 0, 1) := by decide +kernel
theorem dX9_mayOpen_42 : decode cX9_mayOpen 42 = .ok (.getfield 13, 3) := by decide +kernel
theorem dX9_mayOpen_45 : decode cX9_mayOpen 45 = .ok (.iconst 0, 1) := by decide +kernel
theorem dX9_mayOpen_46 : decode cX9_mayOpen 46 = .ok (.iaload, 1) := by decide +kernel
theorem dX9_mayOpen_47 : decode cX9_mayOpen 47 = .ok (.if_icmp .ne 7, 3) := by decide +kernel
theorem dX9_mayOpen_50 : decode cX9_mayOpen 50 = .ok (.iconst 1, 1) := by decide +kernel
theorem dX9_mayOpen_51 : decode cX9_mayOpen 51 = .ok (.goto 4, 3) := by decide +kernel
theorem dX9_mayOpen_54 : decode cX9_mayOpen 54 = .ok (.iconst 0, 1) := by decide +kernel
theorem dX9_mayOpen_55 : decode cX9_mayOpen 55 = .ok (.istore_n 3, 1) := by decide +kernel
theorem dX9_mayOpen_56 : decode cX9_mayOpen 56 = .ok (.aload_n 0, 1) := by decide +kernel
theorem dX9_mayOpen_57 : decode cX9_mayOpen 57 = .ok (.invokevirtual 140, 3) := by decide +kernel
theorem dX9_mayOpen_60 : decode cX9_mayOpen 60 = .ok (.bipush (-4), 2) := by decide +kernel
theorem dX9_mayOpen_62 : decode cX9_mayOpen 62 = .ok (.if_icmp .eq 15, 3) := by decide +kernel
theorem dX9_mayOpen_65 : decode cX9_mayOpen 65 = .ok (.iload_n 2, 1) := by decide +kernel
theorem dX9_mayOpen_66 : decode cX9_mayOpen 66 = .ok (.ifCond .ne 7, 3) := by decide +kernel
theorem dX9_mayOpen_69 : decode cX9_mayOpen 69 = .ok (.iload_n 3, 1) := by decide +kernel
theorem dX9_mayOpen_70 : decode cX9_mayOpen 70 = .ok (.ifCond .eq 7, 3) := by decide +kernel
theorem dX9_mayOpen_73 : decode cX9_mayOpen 73 = .ok (.iconst 1, 1) := by decide +kernel
theorem dX9_mayOpen_74 : decode cX9_mayOpen 74 = .ok (.goto 4, 3) := by decide +kernel
theorem dX9_mayOpen_77 : decode cX9_mayOpen 77 = .ok (.iconst 0, 1) := by decide +kernel
theorem dX9_mayOpen_78 : decode cX9_mayOpen 78 = .ok (.ireturn, 1) := by decide +kernel
theorem dX9_takesRow_0 : decode cX9_takesRow 0 = .ok (.iconst 0, 1) := by decide +kernel
theorem dX9_takesRow_1 : decode cX9_takesRow 1 = .ok (.istore_n 1, 1) := by decide +kernel
theorem dX9_takesRow_2 : decode cX9_takesRow 2 = .ok (.iload_n 1, 1) := by decide +kernel
theorem dX9_takesRow_3 : decode cX9_takesRow 3 = .ok (.aload_n 0, 1) := by decide +kernel
theorem dX9_takesRow_4 : decode cX9_takesRow 4 = .ok (.getfield 13, 3) := by decide +kernel
theorem dX9_takesRow_7 : decode cX9_takesRow 7 = .ok (.iconst 1, 1) := by decide +kernel
theorem dX9_takesRow_8 : decode cX9_takesRow 8 = .ok (.iaload, 1) := by decide +kernel
theorem dX9_takesRow_9 : decode cX9_takesRow 9 = .ok (.if_icmp .ge 80, 3) := by decide +kernel
theorem dX9_takesRow_12 : decode cX9_takesRow 12 = .ok (.bipush (-4), 2) := by decide +kernel
theorem dX9_takesRow_14 : decode cX9_takesRow 14 = .ok (.istore_n 2, 1) := by decide +kernel
theorem dX9_takesRow_15 : decode cX9_takesRow 15 = .ok (.aload_n 0, 1) := by decide +kernel
theorem dX9_takesRow_16 : decode cX9_takesRow 16 = .ok (.getfield 13, 3) := by decide +kernel
theorem dX9_takesRow_19 : decode cX9_takesRow 19 = .ok (.iconst 0, 1) := by decide +kernel
theorem dX9_takesRow_20 : decode cX9_takesRow 20 = .ok (.iaload, 1) := by decide +kernel
theorem dX9_takesRow_21 : decode cX9_takesRow 21 = .ok (.iconst 1, 1) := by decide +kernel
theorem dX9_takesRow_22 : decode cX9_takesRow 22 = .ok (.isub, 1) := by decide +kernel
theorem dX9_takesRow_23 : decode cX9_takesRow 23 = .ok (.istore_n 3, 1) := by decide +kernel
theorem dX9_takesRow_24 : decode cX9_takesRow 24 = .ok (.iload_n 3, 1) := by decide +kernel
theorem dX9_takesRow_25 : decode cX9_takesRow 25 = .ok (.ifCond .lt 34, 3) := by decide +kernel
theorem dX9_takesRow_28 : decode cX9_takesRow 28 = .ok (.aload_n 0, 1) := by decide +kernel
theorem dX9_takesRow_29 : decode cX9_takesRow 29 = .ok (.getfield 19, 3) := by decide +kernel
theorem dX9_takesRow_32 : decode cX9_takesRow 32 = .ok (.aload_n 0, 1) := by decide +kernel
theorem dX9_takesRow_33 : decode cX9_takesRow 33 = .ok (.getfield 34, 3) := by decide +kernel
theorem dX9_takesRow_36 : decode cX9_takesRow 36 = .ok (.iload_n 3, 1) := by decide +kernel
theorem dX9_takesRow_37 : decode cX9_takesRow 37 = .ok (.iaload, 1) := by decide +kernel
theorem dX9_takesRow_38 : decode cX9_takesRow 38 = .ok (.iaload, 1) := by decide +kernel
theorem dX9_takesRow_39 : decode cX9_takesRow 39 = .ok (.ifCond .ne 12, 3) := by decide +kernel
theorem dX9_takesRow_42 : decode cX9_takesRow 42 = .ok (.aload_n 0, 1) := by decide +kernel
theorem dX9_takesRow_43 : decode cX9_takesRow 43 = .ok (.getfield 34, 3) := by decide +kernel
theorem dX9_takesRow_46 : decode cX9_takesRow 46 = .ok (.iload_n 3, 1) := by decide +kernel
theorem dX9_takesRow_47 : decode cX9_takesRow 47 = .ok (.iaload, 1) := by decide +kernel
theorem dX9_takesRow_48 : decode cX9_takesRow 48 = .ok (.goto 4, 3) := by decide +kernel
theorem dX9_takesRow_51 : decode cX9_takesRow 51 = .ok (.iload_n 2, 1) := by decide +kernel
theorem dX9_takesRow_52 : decode cX9_takesRow 52 = .ok (.istore_n 2, 1) := by decide +kernel
theorem dX9_takesRow_53 : decode cX9_takesRow 53 = .ok (.iinc 3 (-1), 3) := by decide +kernel
theorem dX9_takesRow_56 : decode cX9_takesRow 56 = .ok (.goto (-32), 3) := by decide +kernel
theorem dX9_takesRow_59 : decode cX9_takesRow 59 = .ok (.aload_n 0, 1) := by decide +kernel
theorem dX9_takesRow_60 : decode cX9_takesRow 60 = .ok (.getfield 19, 3) := by decide +kernel
theorem dX9_takesRow_63 : decode cX9_takesRow 63 = .ok (.bipush 18, 2) := by decide +kernel
theorem dX9_takesRow_65 : decode cX9_takesRow 65 = .ok (.iload_n 1, 1) := by decide +kernel
theorem dX9_takesRow_66 : decode cX9_takesRow 66 = .ok (.iadd, 1) := by decide +kernel
theorem dX9_takesRow_67 : decode cX9_takesRow 67 = .ok (.iaload, 1) := by decide +kernel
theorem dX9_takesRow_68 : decode cX9_takesRow 68 = .ok (.ifCond .ne 15, 3) := by decide +kernel
theorem dX9_takesRow_71 : decode cX9_takesRow 71 = .ok (.iload_n 2, 1) := by decide +kernel
theorem dX9_takesRow_72 : decode cX9_takesRow 72 = .ok (.bipush (-4), 2) := by decide +kernel
theorem dX9_takesRow_74 : decode cX9_takesRow 74 = .ok (.if_icmp .eq 9, 3) := by decide +kernel
theorem dX9_takesRow_77 : decode cX9_takesRow 77 = .ok (.aload_n 0, 1) := by decide +kernel
theorem dX9_takesRow_78 : decode cX9_takesRow 78 = .ok (.iload_n 1, 1) := by decide +kernel
theorem dX9_takesRow_79 : decode cX9_takesRow 79 = .ok (.iload_n 2, 1) := by decide +kernel
theorem dX9_takesRow_80 : decode cX9_takesRow 80 = .ok (.invokevirtual 118, 3) := by decide +kernel
theorem dX9_takesRow_83 : decode cX9_takesRow 83 = .ok (.iinc 1 1, 3) := by decide +kernel
theorem dX9_takesRow_86 : decode cX9_takesRow 86 = .ok (.goto (-84), 3) := by decide +kernel
theorem dX9_takesRow_89 : decode cX9_takesRow 89 = .ok (.return_, 1) := by decide +kernel
theorem dX9_goes_0 : decode cX9_goes 0 = .ok (.aload_n 0, 1) := by decide +kernel
theorem dX9_goes_1 : decode cX9_goes 1 = .ok (.getfield 19, 3) := by decide +kernel
theorem dX9_goes_4 : decode cX9_goes 4 = .ok (.bipush 28, 2) := by decide +kernel
theorem dX9_goes_6 : decode cX9_goes 6 = .ok (.iaload, 1) := by decide +kernel
theorem dX9_goes_7 : decode cX9_goes 7 = .ok (.istore_n 1, 1) := by decide +kernel
theorem dX9_goes_8 : decode cX9_goes 8 = .ok (.aload_n 0, 1) := by decide +kernel
theorem dX9_goes_9 : decode cX9_goes 9 = .ok (.iconst 0, 1) := by decide +kernel
theorem dX9_goes_10 : decode cX9_goes 10 = .ok (.putfield 143, 3) := by decide +kernel
theorem dX9_goes_13 : decode cX9_goes 13 = .ok (.aload_n 0, 1) := by decide +kernel
theorem dX9_goes_14 : decode cX9_goes 14 = .ok (.getfield 19, 3) := by decide +kernel
theorem dX9_goes_17 : decode cX9_goes 17 = .ok (.bipush 28, 2) := by decide +kernel
theorem dX9_goes_19 : decode cX9_goes 19 = .ok (.iaload, 1) := by decide +kernel
theorem dX9_goes_20 : decode cX9_goes 20 = .ok (.aload_n 0, 1) := by decide +kernel
theorem dX9_goes_21 : decode cX9_goes 21 = .ok (.getfield 13, 3) := by decide +kernel
theorem dX9_goes_24 : decode cX9_goes 24 = .ok (.iconst 4, 1) := by decide +kernel
theorem dX9_goes_25 : decode cX9_goes 25 = .ok (.iaload, 1) := by decide +kernel
theorem dX9_goes_26 : decode cX9_goes 26 = .ok (.if_icmp .gt 66, 3) := by decide +kernel
theorem dX9_goes_29 : decode cX9_goes 29 = .ok (.aload_n 0, 1) := by decide +kernel
theorem dX9_goes_30 : decode cX9_goes 30 = .ok (.invokevirtual 146, 3) := by decide +kernel
theorem dX9_goes_33 : decode cX9_goes 33 = .ok (.ifCond .eq 15, 3) := by decide +kernel
theorem dX9_goes_36 : decode cX9_goes 36 = .ok (.aload_n 0, 1) := by decide +kernel
theorem dX9_goes_37 : decode cX9_goes 37 = .ok (.aload_n 0, 1) := by decide +kernel
theorem dX9_goes_38 : decode cX9_goes 38 = .ok (.invokevirtual 140, 3) := by decide +kernel
theorem dX9_goes_41 : decode cX9_goes 41 = .ok (.invokevirtual 134, 3) := by decide +kernel
theorem dX9_goes_44 : decode cX9_goes 44 = .ok (.pop, 1) := by decide +kernel
theorem dX9_goes_45 : decode cX9_goes 45 = .ok (.goto (-16), 3) := by decide +kernel
theorem dX9_goes_48 : decode cX9_goes 48 = .ok (.aload_n 0, 1) := by decide +kernel
theorem dX9_goes_49 : decode cX9_goes 49 = .ok (.iconst 3, 1) := by decide +kernel
theorem dX9_goes_50 : decode cX9_goes 50 = .ok (.invokevirtual 131, 3) := by decide +kernel
theorem dX9_goes_53 : decode cX9_goes 53 = .ok (.aload_n 0, 1) := by decide +kernel
theorem dX9_goes_54 : decode cX9_goes 54 = .ok (.getfield 13, 3) := by decide +kernel
theorem dX9_goes_57 : decode cX9_goes 57 = .ok (.iconst 0, 1) := by decide +kernel
theorem dX9_goes_58 : decode cX9_goes 58 = .ok (.iaload, 1) := by decide +kernel
theorem dX9_goes_59 : decode cX9_goes 59 = .ok (.if_icmp .ne 13, 3) := by decide +kernel
theorem dX9_goes_62 : decode cX9_goes 62 = .ok (.aload_n 0, 1) := by decide +kernel
theorem dX9_goes_63 : decode cX9_goes 63 = .ok (.getfield 19, 3) := by decide +kernel
theorem dX9_goes_66 : decode cX9_goes 66 = .ok (.bipush 28, 2) := by decide +kernel
theorem dX9_goes_68 : decode cX9_goes 68 = .ok (.iaload, 1) := by decide +kernel
theorem dX9_goes_69 : decode cX9_goes 69 = .ok (.iload_n 1, 1) := by decide +kernel
theorem dX9_goes_70 : decode cX9_goes 70 = .ok (.isub, 1) := by decide +kernel
theorem dX9_goes_71 : decode cX9_goes 71 = .ok (.ireturn, 1) := by decide +kernel
theorem dX9_goes_72 : decode cX9_goes 72 = .ok (.aload_n 0, 1) := by decide +kernel
theorem dX9_goes_73 : decode cX9_goes 73 = .ok (.invokevirtual 149, 3) := by decide +kernel
theorem dX9_goes_76 : decode cX9_goes 76 = .ok (.aload_n 0, 1) := by decide +kernel
theorem dX9_goes_77 : decode cX9_goes 77 = .ok (.dup, 1) := by decide +kernel
theorem dX9_goes_78 : decode cX9_goes 78 = .ok (.getfield 143, 3) := by decide +kernel
theorem dX9_goes_81 : decode cX9_goes 81 = .ok (.aload_n 0, 1) := by decide +kernel
theorem dX9_goes_82 : decode cX9_goes 82 = .ok (.invokevirtual 137, 3) := by decide +kernel
theorem dX9_goes_85 : decode cX9_goes 85 = .ok (.iadd, 1) := by decide +kernel
theorem dX9_goes_86 : decode cX9_goes 86 = .ok (.putfield 143, 3) := by decide +kernel
theorem dX9_goes_89 : decode cX9_goes 89 = .ok (.goto (-76), 3) := by decide +kernel
theorem dX9_goes_92 : decode cX9_goes 92 = .ok (.bipush (-4), 2) := by decide +kernel
theorem dX9_goes_94 : decode cX9_goes 94 = .ok (.ireturn, 1) := by decide +kernel
theorem dX9_goesBut_0 : decode cX9_goesBut 0 = .ok (.iconst 0, 1) := by decide +kernel
theorem dX9_goesBut_1 : decode cX9_goesBut 1 = .ok (.istore_n 2, 1) := by decide +kernel
theorem dX9_goesBut_2 : decode cX9_goesBut 2 = .ok (.iconst 0, 1) := by decide +kernel
theorem dX9_goesBut_3 : decode cX9_goesBut 3 = .ok (.istore_n 3, 1) := by decide +kernel
theorem dX9_goesBut_4 : decode cX9_goesBut 4 = .ok (.iload_n 3, 1) := by decide +kernel
theorem dX9_goesBut_5 : decode cX9_goesBut 5 = .ok (.aload_n 0, 1) := by decide +kernel
theorem dX9_goesBut_6 : decode cX9_goesBut 6 = .ok (.getfield 13, 3) := by decide +kernel
theorem dX9_goesBut_9 : decode cX9_goesBut 9 = .ok (.iconst 0, 1) := by decide +kernel
theorem dX9_goesBut_10 : decode cX9_goesBut 10 = .ok (.iaload, 1) := by decide +kernel
theorem dX9_goesBut_11 : decode cX9_goesBut 11 = .ok (.if_icmp .ge 29, 3) := by decide +kernel
theorem dX9_goesBut_14 : decode cX9_goesBut 14 = .ok (.aload_n 0, 1) := by decide +kernel
theorem dX9_goesBut_15 : decode cX9_goesBut 15 = .ok (.getfield 34, 3) := by decide +kernel
theorem dX9_goesBut_18 : decode cX9_goesBut 18 = .ok (.iload_n 2, 1) := by decide +kernel
theorem dX9_goesBut_19 : decode cX9_goesBut 19 = .ok (.iload_n 3, 1) := by decide +kernel
theorem dX9_goesBut_20 : decode cX9_goesBut 20 = .ok (.iastore, 1) := by decide +kernel
theorem dX9_goesBut_21 : decode cX9_goesBut 21 = .ok (.iload_n 2, 1) := by decide +kernel
theorem dX9_goesBut_22 : decode cX9_goesBut 22 = .ok (.iload_n 3, 1) := by decide +kernel
theorem dX9_goesBut_23 : decode cX9_goesBut 23 = .ok (.iload_n 1, 1) := by decide +kernel
theorem dX9_goesBut_24 : decode cX9_goesBut 24 = .ok (.if_icmp .ne 7, 3) := by decide +kernel
theorem dX9_goesBut_27 : decode cX9_goesBut 27 = .ok (.iconst 0, 1) := by decide +kernel
theorem dX9_goesBut_28 : decode cX9_goesBut 28 = .ok (.goto 4, 3) := by decide +kernel
theorem dX9_goesBut_31 : decode cX9_goesBut 31 = .ok (.iconst 1, 1) := by decide +kernel
theorem dX9_goesBut_32 : decode cX9_goesBut 32 = .ok (.iadd, 1) := by decide +kernel
theorem dX9_goesBut_33 : decode cX9_goesBut 33 = .ok (.istore_n 2, 1) := by decide +kernel
theorem dX9_goesBut_34 : decode cX9_goesBut 34 = .ok (.iinc 3 1, 3) := by decide +kernel
theorem dX9_goesBut_37 : decode cX9_goesBut 37 = .ok (.goto (-33), 3) := by decide +kernel
theorem dX9_goesBut_40 : decode cX9_goesBut 40 = .ok (.iload_n 1, 1) := by decide +kernel
theorem dX9_goesBut_41 : decode cX9_goesBut 41 = .ok (.bipush (-4), 2) := by decide +kernel
theorem dX9_goesBut_43 : decode cX9_goesBut 43 = .ok (.if_icmp .eq 17, 3) := by decide +kernel
theorem dX9_goesBut_46 : decode cX9_goesBut 46 = .ok (.aload_n 0, 1) := by decide +kernel
theorem dX9_goesBut_47 : decode cX9_goesBut 47 = .ok (.getfield 34, 3) := by decide +kernel
theorem dX9_goesBut_50 : decode cX9_goesBut 50 = .ok (.aload_n 0, 1) := by decide +kernel
theorem dX9_goesBut_51 : decode cX9_goesBut 51 = .ok (.getfield 13, 3) := by decide +kernel
theorem dX9_goesBut_54 : decode cX9_goesBut 54 = .ok (.iconst 0, 1) := by decide +kernel
theorem dX9_goesBut_55 : decode cX9_goesBut 55 = .ok (.iaload, 1) := by decide +kernel
theorem dX9_goesBut_56 : decode cX9_goesBut 56 = .ok (.iconst 1, 1) := by decide +kernel
theorem dX9_goesBut_57 : decode cX9_goesBut 57 = .ok (.isub, 1) := by decide +kernel
theorem dX9_goesBut_58 : decode cX9_goesBut 58 = .ok (.iload_n 1, 1) := by decide +kernel
theorem dX9_goesBut_59 : decode cX9_goesBut 59 = .ok (.iastore, 1) := by decide +kernel
theorem dX9_goesBut_60 : decode cX9_goesBut 60 = .ok (.aload_n 0, 1) := by decide +kernel
theorem dX9_goesBut_61 : decode cX9_goesBut 61 = .ok (.invokevirtual 152, 3) := by decide +kernel
theorem dX9_goesBut_64 : decode cX9_goesBut 64 = .ok (.istore_n 3, 1) := by decide +kernel
theorem dX9_goesBut_65 : decode cX9_goesBut 65 = .ok (.aload_n 0, 1) := by decide +kernel
theorem dX9_goesBut_66 : decode cX9_goesBut 66 = .ok (.invokevirtual 155, 3) := by decide +kernel
theorem dX9_goesBut_69 : decode cX9_goesBut 69 = .ok (.iload_n 3, 1) := by decide +kernel
theorem dX9_goesBut_70 : decode cX9_goesBut 70 = .ok (.ireturn, 1) := by decide +kernel
theorem dX9_asTold_0 : decode cX9_asTold 0 = .ok (.iload_n 1, 1) := by decide +kernel
theorem dX9_asTold_1 : decode cX9_asTold 1 = .ok (.iconst 0, 1) := by decide +kernel
theorem dX9_asTold_2 : decode cX9_asTold 2 = .ok (.iconst 1, 1) := by decide +kernel
theorem dX9_asTold_3 : decode cX9_asTold 3 = .ok (.invokestatic 50, 3) := by decide +kernel
theorem dX9_asTold_6 : decode cX9_asTold 6 = .ok (.ifCond .ne 5, 3) := by decide +kernel
theorem dX9_asTold_9 : decode cX9_asTold 9 = .ok (.iconst (-1), 1) := by decide +kernel
theorem dX9_asTold_10 : decode cX9_asTold 10 = .ok (.ireturn, 1) := by decide +kernel
theorem dX9_asTold_11 : decode cX9_asTold 11 = .ok (.aload_n 0, 1) := by decide +kernel
theorem dX9_asTold_12 : decode cX9_asTold 12 = .ok (.invokevirtual 158, 3) := by decide +kernel
theorem dX9_asTold_15 : decode cX9_asTold 15 = .ok (.aload_n 0, 1) := by decide +kernel
theorem dX9_asTold_16 : decode cX9_asTold 16 = .ok (.bipush (-4), 2) := by decide +kernel
theorem dX9_asTold_18 : decode cX9_asTold 18 = .ok (.invokevirtual 161, 3) := by decide +kernel
theorem dX9_asTold_21 : decode cX9_asTold 21 = .ok (.istore_n 2, 1) := by decide +kernel
theorem dX9_asTold_22 : decode cX9_asTold 22 = .ok (.iload_n 1, 1) := by decide +kernel
theorem dX9_asTold_23 : decode cX9_asTold 23 = .ok (.ifCond .eq 9, 3) := by decide +kernel
theorem dX9_asTold_26 : decode cX9_asTold 26 = .ok (.iload_n 2, 1) := by decide +kernel
theorem dX9_asTold_27 : decode cX9_asTold 27 = .ok (.bipush (-4), 2) := by decide +kernel
theorem dX9_asTold_29 : decode cX9_asTold 29 = .ok (.if_icmp .ne 7, 3) := by decide +kernel
theorem dX9_asTold_32 : decode cX9_asTold 32 = .ok (.iload_n 2, 1) := by decide +kernel
theorem dX9_asTold_33 : decode cX9_asTold 33 = .ok (.goto 7, 3) := by decide +kernel
theorem dX9_asTold_36 : decode cX9_asTold 36 = .ok (.aload_n 0, 1) := by decide +kernel
theorem dX9_asTold_37 : decode cX9_asTold 37 = .ok (.getfield 143, 3) := by decide +kernel
theorem dX9_asTold_40 : decode cX9_asTold 40 = .ok (.ireturn, 1) := by decide +kernel
theorem dX9_isRow_0 : decode cX9_isRow 0 = .ok (.iconst 0, 1) := by decide +kernel
theorem dX9_isRow_1 : decode cX9_isRow 1 = .ok (.istore_n 2, 1) := by decide +kernel
theorem dX9_isRow_2 : decode cX9_isRow 2 = .ok (.iload_n 1, 1) := by decide +kernel
theorem dX9_isRow_3 : decode cX9_isRow 3 = .ok (.istore_n 3, 1) := by decide +kernel
theorem dX9_isRow_4 : decode cX9_isRow 4 = .ok (.aload_n 0, 1) := by decide +kernel
theorem dX9_isRow_5 : decode cX9_isRow 5 = .ok (.getfield 13, 3) := by decide +kernel
theorem dX9_isRow_8 : decode cX9_isRow 8 = .ok (.iconst 0, 1) := by decide +kernel
theorem dX9_isRow_9 : decode cX9_isRow 9 = .ok (.iaload, 1) := by decide +kernel
theorem dX9_isRow_10 : decode cX9_isRow 10 = .ok (.iconst 1, 1) := by decide +kernel
theorem dX9_isRow_11 : decode cX9_isRow 11 = .ok (.isub, 1) := by decide +kernel
theorem dX9_isRow_12 : decode cX9_isRow 12 = .ok (.istore 4, 2) := by decide +kernel
theorem dX9_isRow_14 : decode cX9_isRow 14 = .ok (.iload 4, 2) := by decide +kernel
theorem dX9_isRow_16 : decode cX9_isRow 16 = .ok (.ifCond .lt 45, 3) := by decide +kernel
theorem dX9_isRow_19 : decode cX9_isRow 19 = .ok (.aload_n 0, 1) := by decide +kernel
theorem dX9_isRow_20 : decode cX9_isRow 20 = .ok (.getfield 34, 3) := by decide +kernel
theorem dX9_isRow_23 : decode cX9_isRow 23 = .ok (.iload 4, 2) := by decide +kernel
theorem dX9_isRow_25 : decode cX9_isRow 25 = .ok (.iload_n 3, 1) := by decide +kernel
theorem dX9_isRow_26 : decode cX9_isRow 26 = .ok (.aload_n 0, 1) := by decide +kernel
theorem dX9_isRow_27 : decode cX9_isRow 27 = .ok (.getfield 13, 3) := by decide +kernel
theorem dX9_isRow_30 : decode cX9_isRow 30 = .ok (.iconst 0, 1) := by decide +kernel
theorem dX9_isRow_31 : decode cX9_isRow 31 = .ok (.iaload, 1) := by decide +kernel
theorem dX9_isRow_32 : decode cX9_isRow 32 = .ok (.irem, 1) := by decide +kernel
theorem dX9_isRow_33 : decode cX9_isRow 33 = .ok (.iastore, 1) := by decide +kernel
theorem dX9_isRow_34 : decode cX9_isRow 34 = .ok (.iload_n 3, 1) := by decide +kernel
theorem dX9_isRow_35 : decode cX9_isRow 35 = .ok (.aload_n 0, 1) := by decide +kernel
theorem dX9_isRow_36 : decode cX9_isRow 36 = .ok (.getfield 13, 3) := by decide +kernel
theorem dX9_isRow_39 : decode cX9_isRow 39 = .ok (.iconst 0, 1) := by decide +kernel
theorem dX9_isRow_40 : decode cX9_isRow 40 = .ok (.iaload, 1) := by decide +kernel
theorem dX9_isRow_41 : decode cX9_isRow 41 = .ok (.idiv, 1) := by decide +kernel
theorem dX9_isRow_42 : decode cX9_isRow 42 = .ok (.istore_n 3, 1) := by decide +kernel
theorem dX9_isRow_43 : decode cX9_isRow 43 = .ok (.iload_n 2, 1) := by decide +kernel
theorem dX9_isRow_44 : decode cX9_isRow 44 = .ok (.iconst 1, 1) := by decide +kernel
theorem dX9_isRow_45 : decode cX9_isRow 45 = .ok (.aload_n 0, 1) := by decide +kernel
theorem dX9_isRow_46 : decode cX9_isRow 46 = .ok (.getfield 34, 3) := by decide +kernel
theorem dX9_isRow_49 : decode cX9_isRow 49 = .ok (.iload 4, 2) := by decide +kernel
theorem dX9_isRow_51 : decode cX9_isRow 51 = .ok (.iaload, 1) := by decide +kernel
theorem dX9_isRow_52 : decode cX9_isRow 52 = .ok (.ishl, 1) := by decide +kernel
theorem dX9_isRow_53 : decode cX9_isRow 53 = .ok (.ior, 1) := by decide +kernel
theorem dX9_isRow_54 : decode cX9_isRow 54 = .ok (.istore_n 2, 1) := by decide +kernel
theorem dX9_isRow_55 : decode cX9_isRow 55 = .ok (.iinc 4 (-1), 3) := by decide +kernel
theorem dX9_isRow_58 : decode cX9_isRow 58 = .ok (.goto (-44), 3) := by decide +kernel
theorem dX9_isRow_61 : decode cX9_isRow 61 = .ok (.iload_n 2, 1) := by decide +kernel
theorem dX9_isRow_62 : decode cX9_isRow 62 = .ok (.iconst 1, 1) := by decide +kernel
theorem dX9_isRow_63 : decode cX9_isRow 63 = .ok (.aload_n 0, 1) := by decide +kernel
theorem dX9_isRow_64 : decode cX9_isRow 64 = .ok (.getfield 13, 3) := by decide +kernel
theorem dX9_isRow_67 : decode cX9_isRow 67 = .ok (.iconst 0, 1) := by decide +kernel
theorem dX9_isRow_68 : decode cX9_isRow 68 = .ok (.iaload, 1) := by decide +kernel
theorem dX9_isRow_69 : decode cX9_isRow 69 = .ok (.ishl, 1) := by decide +kernel
theorem dX9_isRow_70 : decode cX9_isRow 70 = .ok (.iconst 1, 1) := by decide +kernel
theorem dX9_isRow_71 : decode cX9_isRow 71 = .ok (.isub, 1) := by decide +kernel
theorem dX9_isRow_72 : decode cX9_isRow 72 = .ok (.if_icmp .ne 7, 3) := by decide +kernel
theorem dX9_isRow_75 : decode cX9_isRow 75 = .ok (.iconst 1, 1) := by decide +kernel
theorem dX9_isRow_76 : decode cX9_isRow 76 = .ok (.goto 4, 3) := by decide +kernel
theorem dX9_isRow_79 : decode cX9_isRow 79 = .ok (.iconst 0, 1) := by decide +kernel
theorem dX9_isRow_80 : decode cX9_isRow 80 = .ok (.ireturn, 1) := by decide +kernel
theorem dX9_best_0 : decode cX9_best 0 = .ok (.iload_n 1, 1) := by decide +kernel
theorem dX9_best_1 : decode cX9_best 1 = .ok (.bipush (-2), 2) := by decide +kernel
theorem dX9_best_3 : decode cX9_best 3 = .ok (.if_icmp .ge 5, 3) := by decide +kernel
theorem dX9_best_6 : decode cX9_best 6 = .ok (.iconst (-1), 1) := by decide +kernel
theorem dX9_best_7 : decode cX9_best 7 = .ok (.ireturn, 1) := by decide +kernel
theorem dX9_best_8 : decode cX9_best 8 = .ok (.aload_n 0, 1) := by decide +kernel
theorem dX9_best_9 : decode cX9_best 9 = .ok (.invokevirtual 158, 3) := by decide +kernel
theorem dX9_best_12 : decode cX9_best 12 = .ok (.iconst 1, 1) := by decide +kernel
theorem dX9_best_13 : decode cX9_best 13 = .ok (.istore_n 2, 1) := by decide +kernel
theorem dX9_best_14 : decode cX9_best 14 = .ok (.iconst 0, 1) := by decide +kernel
theorem dX9_best_15 : decode cX9_best 15 = .ok (.istore_n 3, 1) := by decide +kernel
theorem dX9_best_16 : decode cX9_best 16 = .ok (.iload_n 3, 1) := by decide +kernel
theorem dX9_best_17 : decode cX9_best 17 = .ok (.aload_n 0, 1) := by decide +kernel
theorem dX9_best_18 : decode cX9_best 18 = .ok (.getfield 13, 3) := by decide +kernel
theorem dX9_best_21 : decode cX9_best 21 = .ok (.iconst 0, 1) := by decide +kernel
theorem dX9_best_22 : decode cX9_best 22 = .ok (.iaload, 1) := by decide +kernel
theorem dX9_best_23 : decode cX9_best 23 = .ok (.if_icmp .ge 18, 3) := by decide +kernel
theorem dX9_best_26 : decode cX9_best 26 = .ok (.iload_n 2, 1) := by decide +kernel
theorem dX9_best_27 : decode cX9_best 27 = .ok (.aload_n 0, 1) := by decide +kernel
theorem dX9_best_28 : decode cX9_best 28 = .ok (.getfield 13, 3) := by decide +kernel
theorem dX9_best_31 : decode cX9_best 31 = .ok (.iconst 0, 1) := by decide +kernel
theorem dX9_best_32 : decode cX9_best 32 = .ok (.iaload, 1) := by decide +kernel
theorem dX9_best_33 : decode cX9_best 33 = .ok (.imul, 1) := by decide +kernel
theorem dX9_best_34 : decode cX9_best 34 = .ok (.istore_n 2, 1) := by decide +kernel
theorem dX9_best_35 : decode cX9_best 35 = .ok (.iinc 3 1, 3) := by decide +kernel
theorem dX9_best_38 : decode cX9_best 38 = .ok (.goto (-22), 3) := by decide +kernel
theorem dX9_best_41 : decode cX9_best 41 = .ok (.bipush (-4), 2) := by decide +kernel
theorem dX9_best_43 : decode cX9_best 43 = .ok (.istore_n 3, 1) := by decide +kernel
theorem dX9_best_44 : decode cX9_best 44 = .ok (.iconst 0, 1) := by decide +kernel
theorem dX9_best_45 : decode cX9_best 45 = .ok (.istore 4, 2) := by decide +kernel
theorem dX9_best_47 : decode cX9_best 47 = .ok (.bipush (-4), 2) := by decide +kernel
theorem dX9_best_49 : decode cX9_best 49 = .ok (.istore 5, 2) := by decide +kernel
theorem dX9_best_51 : decode cX9_best 51 = .ok (.iconst 0, 1) := by decide +kernel
theorem dX9_best_52 : decode cX9_best 52 = .ok (.istore 6, 2) := by decide +kernel
theorem dX9_best_54 : decode cX9_best 54 = .ok (.iload 6, 2) := by decide +kernel
theorem dX9_best_56 : decode cX9_best 56 = .ok (.iload_n 2, 1) := by decide +kernel
theorem dX9_best_57 : decode cX9_best 57 = .ok (.if_icmp .ge 98, 3) := by decide +kernel
theorem dX9_best_60 : decode cX9_best 60 = .ok (.aload_n 0, 1) := by decide +kernel
theorem dX9_best_61 : decode cX9_best 61 = .ok (.iload 6, 2) := by decide +kernel
theorem dX9_best_63 : decode cX9_best 63 = .ok (.invokevirtual 164, 3) := by decide +kernel
theorem dX9_best_66 : decode cX9_best 66 = .ok (.ifCond .eq 83, 3) := by decide +kernel
theorem dX9_best_69 : decode cX9_best 69 = .ok (.aload_n 0, 1) := by decide +kernel
theorem dX9_best_70 : decode cX9_best 70 = .ok (.invokevirtual 152, 3) := by decide +kernel
theorem dX9_best_73 : decode cX9_best 73 = .ok (.istore 7, 2) := by decide +kernel
theorem dX9_best_75 : decode cX9_best 75 = .ok (.aload_n 0, 1) := by decide +kernel
theorem dX9_best_76 : decode cX9_best 76 = .ok (.invokevirtual 155, 3) := by decide +kernel
theorem dX9_best_79 : decode cX9_best 79 = .ok (.iload 7, 2) := by decide +kernel
theorem dX9_best_81 : decode cX9_best 81 = .ok (.bipush (-4), 2) := by decide +kernel
theorem dX9_best_83 : decode cX9_best 83 = .ok (.if_icmp .eq 66, 3) := by decide +kernel
theorem dX9_best_86 : decode cX9_best 86 = .ok (.iload_n 3, 1) := by decide +kernel
theorem dX9_best_87 : decode cX9_best 87 = .ok (.bipush (-4), 2) := by decide +kernel
theorem dX9_best_89 : decode cX9_best 89 = .ok (.if_icmp .eq 24, 3) := by decide +kernel
theorem dX9_best_92 : decode cX9_best 92 = .ok (.iload 7, 2) := by decide +kernel
theorem dX9_best_94 : decode cX9_best 94 = .ok (.iload_n 3, 1) := by decide +kernel
theorem dX9_best_95 : decode cX9_best 95 = .ok (.if_icmp .lt 18, 3) := by decide +kernel
theorem dX9_best_98 : decode cX9_best 98 = .ok (.iload 7, 2) := by decide +kernel
theorem dX9_best_100 : decode cX9_best 100 = .ok (.iload_n 3, 1) := by decide +kernel
theorem dX9_best_101 : decode cX9_best 101 = .ok (.if_icmp .ne 48, 3) := by decide +kernel
theorem dX9_best_104 : decode cX9_best 104 = .ok (.aload_n 0, 1) := by decide +kernel
theorem dX9_best_105 : decode cX9_best 105 = .ok (.getfield 143, 3) := by decide +kernel
theorem dX9_best_108 : decode cX9_best 108 = .ok (.iload 4, 2) := by decide +kernel
theorem dX9_best_110 : decode cX9_best 110 = .ok (.if_icmp .ge 39, 3) := by decide +kernel
theorem dX9_best_113 : decode cX9_best 113 = .ok (.iload 7, 2) := by decide +kernel
theorem dX9_best_115 : decode cX9_best 115 = .ok (.istore_n 3, 1) := by decide +kernel
theorem dX9_best_116 : decode cX9_best 116 = .ok (.aload_n 0, 1) := by decide +kernel
theorem dX9_best_117 : decode cX9_best 117 = .ok (.getfield 143, 3) := by decide +kernel
theorem dX9_best_120 : decode cX9_best 120 = .ok (.istore 4, 2) := by decide +kernel
theorem dX9_best_122 : decode cX9_best 122 = .ok (.iload_n 1, 1) := by decide +kernel
theorem dX9_best_123 : decode cX9_best 123 = .ok (.ifCond .lt 22, 3) := by decide +kernel
theorem dX9_best_126 : decode cX9_best 126 = .ok (.iload_n 1, 1) := by decide +kernel
theorem dX9_best_127 : decode cX9_best 127 = .ok (.aload_n 0, 1) := by decide +kernel
theorem dX9_best_128 : decode cX9_best 128 = .ok (.getfield 13, 3) := by decide +kernel
theorem dX9_best_131 : decode cX9_best 131 = .ok (.iconst 0, 1) := by decide +kernel
theorem dX9_best_132 : decode cX9_best 132 = .ok (.iaload, 1) := by decide +kernel
theorem dX9_best_133 : decode cX9_best 133 = .ok (.if_icmp .ge 12, 3) := by decide +kernel
theorem dX9_best_136 : decode cX9_best 136 = .ok (.aload_n 0, 1) := by decide +kernel
theorem dX9_best_137 : decode cX9_best 137 = .ok (.getfield 34, 3) := by decide +kernel
theorem dX9_best_140 : decode cX9_best 140 = .ok (.iload_n 1, 1) := by decide +kernel
theorem dX9_best_141 : decode cX9_best 141 = .ok (.iaload, 1) := by decide +kernel
theorem dX9_best_142 : decode cX9_best 142 = .ok (.goto 5, 3) := by decide +kernel
theorem dX9_best_145 : decode cX9_best 145 = .ok (.bipush (-4), 2) := by decide +kernel
theorem dX9_best_147 : decode cX9_best 147 = .ok (.istore 5, 2) := by decide +kernel
theorem dX9_best_149 : decode cX9_best 149 = .ok (.iinc 6 1, 3) := by decide +kernel
theorem dX9_best_152 : decode cX9_best 152 = .ok (.goto (-98), 3) := by decide +kernel
theorem dX9_best_155 : decode cX9_best 155 = .ok (.iload_n 1, 1) := by decide +kernel
theorem dX9_best_156 : decode cX9_best 156 = .ok (.iconst (-1), 1) := by decide +kernel
theorem dX9_best_157 : decode cX9_best 157 = .ok (.if_icmp .ne 7, 3) := by decide +kernel
theorem dX9_best_160 : decode cX9_best 160 = .ok (.iload_n 3, 1) := by decide +kernel
theorem dX9_best_161 : decode cX9_best 161 = .ok (.goto 27, 3) := by decide +kernel
theorem dX9_best_164 : decode cX9_best 164 = .ok (.iload_n 1, 1) := by decide +kernel
theorem dX9_best_165 : decode cX9_best 165 = .ok (.bipush (-2), 2) := by decide +kernel
theorem dX9_best_167 : decode cX9_best 167 = .ok (.if_icmp .ne 19, 3) := by decide +kernel
theorem dX9_best_170 : decode cX9_best 170 = .ok (.iload_n 3, 1) := by decide +kernel
theorem dX9_best_171 : decode cX9_best 171 = .ok (.bipush (-4), 2) := by decide +kernel
theorem dX9_best_173 : decode cX9_best 173 = .ok (.if_icmp .ne 8, 3) := by decide +kernel
theorem dX9_best_176 : decode cX9_best 176 = .ok (.bipush (-4), 2) := by decide +kernel
theorem dX9_best_178 : decode cX9_best 178 = .ok (.goto 10, 3) := by decide +kernel
theorem dX9_best_181 : decode cX9_best 181 = .ok (.iload 4, 2) := by decide +kernel
theorem dX9_best_183 : decode cX9_best 183 = .ok (.goto 5, 3) := by decide +kernel
theorem dX9_best_186 : decode cX9_best 186 = .ok (.iload 5, 2) := by decide +kernel
theorem dX9_best_188 : decode cX9_best 188 = .ok (.ireturn, 1) := by decide +kernel
theorem dX9_last_0 : decode cX9_last 0 = .ok (.aload_n 0, 1) := by decide +kernel
theorem dX9_last_1 : decode cX9_last 1 = .ok (.invokevirtual 158, 3) := by decide +kernel
theorem dX9_last_4 : decode cX9_last 4 = .ok (.iconst 0, 1) := by decide +kernel
theorem dX9_last_5 : decode cX9_last 5 = .ok (.istore_n 1, 1) := by decide +kernel
theorem dX9_last_6 : decode cX9_last 6 = .ok (.iconst 0, 1) := by decide +kernel
theorem dX9_last_7 : decode cX9_last 7 = .ok (.istore_n 2, 1) := by decide +kernel
theorem dX9_last_8 : decode cX9_last 8 = .ok (.iload_n 2, 1) := by decide +kernel
theorem dX9_last_9 : decode cX9_last 9 = .ok (.aload_n 0, 1) := by decide +kernel
theorem dX9_last_10 : decode cX9_last 10 = .ok (.getfield 13, 3) := by decide +kernel
theorem dX9_last_13 : decode cX9_last 13 = .ok (.iconst 0, 1) := by decide +kernel
theorem dX9_last_14 : decode cX9_last 14 = .ok (.iaload, 1) := by decide +kernel
theorem dX9_last_15 : decode cX9_last 15 = .ok (.if_icmp .ge 36, 3) := by decide +kernel
theorem dX9_last_18 : decode cX9_last 18 = .ok (.iload_n 1, 1) := by decide +kernel
theorem dX9_last_19 : decode cX9_last 19 = .ok (.aload_n 0, 1) := by decide +kernel
theorem dX9_last_20 : decode cX9_last 20 = .ok (.iload_n 2, 1) := by decide +kernel
theorem dX9_last_21 : decode cX9_last 21 = .ok (.invokevirtual 161, 3) := by decide +kernel
theorem dX9_last_24 : decode cX9_last 24 = .ok (.bipush (-4), 2) := by decide +kernel
theorem dX9_last_26 : decode cX9_last 26 = .ok (.if_icmp .eq 16, 3) := by decide +kernel
theorem dX9_last_29 : decode cX9_last 29 = .ok (.aload_n 0, 1) := by decide +kernel
theorem dX9_last_30 : decode cX9_last 30 = .ok (.getfield 143, 3) := by decide +kernel
theorem dX9_last_33 : decode cX9_last 33 = .ok (.ifCond .ne 9, 3) := by decide +kernel
theorem dX9_last_36 : decode cX9_last 36 = .ok (.iconst 1, 1) := by decide +kernel
theorem dX9_last_37 : decode cX9_last 37 = .ok (.iload_n 2, 1) := by decide +kernel
theorem dX9_last_38 : decode cX9_last 38 = .ok (.ishl, 1) := by decide +kernel
theorem dX9_last_39 : decode cX9_last 39 = .ok (.goto 4, 3) := by decide +kernel
theorem dX9_last_42 : decode cX9_last 42 = .ok (.iconst 0, 1) := by decide +kernel
theorem dX9_last_43 : decode cX9_last 43 = .ok (.ior, 1) := by decide +kernel
theorem dX9_last_44 : decode cX9_last 44 = .ok (.istore_n 1, 1) := by decide +kernel
theorem dX9_last_45 : decode cX9_last 45 = .ok (.iinc 2 1, 3) := by decide +kernel
theorem dX9_last_48 : decode cX9_last 48 = .ok (.goto (-40), 3) := by decide +kernel
theorem dX9_last_51 : decode cX9_last 51 = .ok (.iload_n 1, 1) := by decide +kernel
theorem dX9_last_52 : decode cX9_last 52 = .ok (.ireturn, 1) := by decide +kernel
theorem dX9_pays_0 : decode cX9_pays 0 = .ok (.aload_n 0, 1) := by decide +kernel
theorem dX9_pays_1 : decode cX9_pays 1 = .ok (.invokevirtual 158, 3) := by decide +kernel
theorem dX9_pays_4 : decode cX9_pays 4 = .ok (.aload_n 0, 1) := by decide +kernel
theorem dX9_pays_5 : decode cX9_pays 5 = .ok (.bipush (-4), 2) := by decide +kernel
theorem dX9_pays_7 : decode cX9_pays 7 = .ok (.invokevirtual 161, 3) := by decide +kernel
theorem dX9_pays_10 : decode cX9_pays 10 = .ok (.istore_n 1, 1) := by decide +kernel
theorem dX9_pays_11 : decode cX9_pays 11 = .ok (.aload_n 0, 1) := by decide +kernel
theorem dX9_pays_12 : decode cX9_pays 12 = .ok (.invokevirtual 167, 3) := by decide +kernel
theorem dX9_pays_15 : decode cX9_pays 15 = .ok (.istore_n 2, 1) := by decide +kernel
theorem dX9_pays_16 : decode cX9_pays 16 = .ok (.iload_n 2, 1) := by decide +kernel
theorem dX9_pays_17 : decode cX9_pays 17 = .ok (.bipush (-4), 2) := by decide +kernel
theorem dX9_pays_19 : decode cX9_pays 19 = .ok (.if_icmp .eq 10, 3) := by decide +kernel
theorem dX9_pays_22 : decode cX9_pays 22 = .ok (.aload_n 0, 1) := by decide +kernel
theorem dX9_pays_23 : decode cX9_pays 23 = .ok (.invokevirtual 121, 3) := by decide +kernel
theorem dX9_pays_26 : decode cX9_pays 26 = .ok (.ifCond .eq 6, 3) := by decide +kernel
theorem dX9_pays_29 : decode cX9_pays 29 = .ok (.bipush (-4), 2) := by decide +kernel
theorem dX9_pays_31 : decode cX9_pays 31 = .ok (.ireturn, 1) := by decide +kernel
theorem dX9_pays_32 : decode cX9_pays 32 = .ok (.aload_n 0, 1) := by decide +kernel
theorem dX9_pays_33 : decode cX9_pays 33 = .ok (.iload_n 2, 1) := by decide +kernel
theorem dX9_pays_34 : decode cX9_pays 34 = .ok (.iconst 2, 1) := by decide +kernel
theorem dX9_pays_35 : decode cX9_pays 35 = .ok (.iconst 3, 1) := by decide +kernel
theorem dX9_pays_36 : decode cX9_pays 36 = .ok (.iconst 0, 1) := by decide +kernel
theorem dX9_pays_37 : decode cX9_pays 37 = .ok (.invokevirtual 111, 3) := by decide +kernel
theorem dX9_pays_40 : decode cX9_pays 40 = .ok (.aload_n 0, 1) := by decide +kernel
theorem dX9_pays_41 : decode cX9_pays 41 = .ok (.bipush (-4), 2) := by decide +kernel
theorem dX9_pays_43 : decode cX9_pays 43 = .ok (.invokevirtual 161, 3) := by decide +kernel
theorem dX9_pays_46 : decode cX9_pays 46 = .ok (.istore_n 3, 1) := by decide +kernel
theorem dX9_pays_47 : decode cX9_pays 47 = .ok (.iload_n 1, 1) := by decide +kernel
theorem dX9_pays_48 : decode cX9_pays 48 = .ok (.bipush (-4), 2) := by decide +kernel
theorem dX9_pays_50 : decode cX9_pays 50 = .ok (.if_icmp .eq 9, 3) := by decide +kernel
theorem dX9_pays_53 : decode cX9_pays 53 = .ok (.iload_n 3, 1) := by decide +kernel
theorem dX9_pays_54 : decode cX9_pays 54 = .ok (.bipush (-4), 2) := by decide +kernel
theorem dX9_pays_56 : decode cX9_pays 56 = .ok (.if_icmp .ne 8, 3) := by decide +kernel
theorem dX9_pays_59 : decode cX9_pays 59 = .ok (.bipush (-4), 2) := by decide +kernel
theorem dX9_pays_61 : decode cX9_pays 61 = .ok (.goto 9, 3) := by decide +kernel
theorem dX9_pays_64 : decode cX9_pays 64 = .ok (.bipush 100, 2) := by decide +kernel
theorem dX9_pays_66 : decode cX9_pays 66 = .ok (.iload_n 1, 1) := by decide +kernel
theorem dX9_pays_67 : decode cX9_pays 67 = .ok (.iadd, 1) := by decide +kernel
theorem dX9_pays_68 : decode cX9_pays 68 = .ok (.iload_n 3, 1) := by decide +kernel
theorem dX9_pays_69 : decode cX9_pays 69 = .ok (.isub, 1) := by decide +kernel
theorem dX9_pays_70 : decode cX9_pays 70 = .ok (.ireturn, 1) := by decide +kernel
theorem dX9_women_0 : decode cX9_women 0 = .ok (.iload_n 1, 1) := by decide +kernel
theorem dX9_women_1 : decode cX9_women 1 = .ok (.iconst 1, 1) := by decide +kernel
theorem dX9_women_2 : decode cX9_women 2 = .ok (.iconst 3, 1) := by decide +kernel
theorem dX9_women_3 : decode cX9_women 3 = .ok (.invokestatic 50, 3) := by decide +kernel
theorem dX9_women_6 : decode cX9_women 6 = .ok (.ifCond .ne 5, 3) := by decide +kernel
theorem dX9_women_9 : decode cX9_women 9 = .ok (.iconst (-1), 1) := by decide +kernel
theorem dX9_women_10 : decode cX9_women 10 = .ok (.ireturn, 1) := by decide +kernel
theorem dX9_women_11 : decode cX9_women 11 = .ok (.aload_n 0, 1) := by decide +kernel
theorem dX9_women_12 : decode cX9_women 12 = .ok (.invokevirtual 158, 3) := by decide +kernel
theorem dX9_women_15 : decode cX9_women 15 = .ok (.aload_n 0, 1) := by decide +kernel
theorem dX9_women_16 : decode cX9_women 16 = .ok (.getfield 13, 3) := by decide +kernel
theorem dX9_women_19 : decode cX9_women 19 = .ok (.iconst 1, 1) := by decide +kernel
theorem dX9_women_20 : decode cX9_women 20 = .ok (.iaload, 1) := by decide +kernel
theorem dX9_women_21 : decode cX9_women 21 = .ok (.istore_n 2, 1) := by decide +kernel
theorem dX9_women_22 : decode cX9_women 22 = .ok (.aload_n 0, 1) := by decide +kernel
theorem dX9_women_23 : decode cX9_women 23 = .ok (.invokevirtual 84, 3) := by decide +kernel
theorem dX9_women_26 : decode cX9_women 26 = .ok (.aload_n 0, 1) := by decide +kernel
theorem dX9_women_27 : decode cX9_women 27 = .ok (.getfield 13, 3) := by decide +kernel
theorem dX9_women_30 : decode cX9_women 30 = .ok (.iconst 1, 1) := by decide +kernel
theorem dX9_women_31 : decode cX9_women 31 = .ok (.iload_n 1, 1) := by decide +kernel
theorem dX9_women_32 : decode cX9_women 32 = .ok (.iastore, 1) := by decide +kernel
theorem dX9_women_33 : decode cX9_women 33 = .ok (.aload_n 0, 1) := by decide +kernel
theorem dX9_women_34 : decode cX9_women 34 = .ok (.bipush (-4), 2) := by decide +kernel
theorem dX9_women_36 : decode cX9_women 36 = .ok (.invokevirtual 161, 3) := by decide +kernel
theorem dX9_women_39 : decode cX9_women 39 = .ok (.istore_n 3, 1) := by decide +kernel
theorem dX9_women_40 : decode cX9_women 40 = .ok (.aload_n 0, 1) := by decide +kernel
theorem dX9_women_41 : decode cX9_women 41 = .ok (.getfield 13, 3) := by decide +kernel
theorem dX9_women_44 : decode cX9_women 44 = .ok (.iconst 1, 1) := by decide +kernel
theorem dX9_women_45 : decode cX9_women 45 = .ok (.iload_n 2, 1) := by decide +kernel
theorem dX9_women_46 : decode cX9_women 46 = .ok (.iastore, 1) := by decide +kernel
theorem dX9_women_47 : decode cX9_women 47 = .ok (.iload_n 3, 1) := by decide +kernel
theorem dX9_women_48 : decode cX9_women 48 = .ok (.ireturn, 1) := by decide +kernel
theorem dX9_seen_0 : decode cX9_seen 0 = .ok (.aload_n 0, 1) := by decide +kernel
theorem dX9_seen_1 : decode cX9_seen 1 = .ok (.iload_n 1, 1) := by decide +kernel
theorem dX9_seen_2 : decode cX9_seen 2 = .ok (.invokevirtual 99, 3) := by decide +kernel
theorem dX9_seen_5 : decode cX9_seen 5 = .ok (.ifCond .eq 22, 3) := by decide +kernel
theorem dX9_seen_8 : decode cX9_seen 8 = .ok (.iload_n 2, 1) := by decide +kernel
theorem dX9_seen_9 : decode cX9_seen 9 = .ok (.iconst 1, 1) := by decide +kernel
theorem dX9_seen_10 : decode cX9_seen 10 = .ok (.bipush 20, 2) := by decide +kernel
theorem dX9_seen_12 : decode cX9_seen 12 = .ok (.invokestatic 50, 3) := by decide +kernel
theorem dX9_seen_15 : decode cX9_seen 15 = .ok (.ifCond .eq 12, 3) := by decide +kernel
theorem dX9_seen_18 : decode cX9_seen 18 = .ok (.iload_n 3, 1) := by decide +kernel
theorem dX9_seen_19 : decode cX9_seen 19 = .ok (.iconst 0, 1) := by decide +kernel
theorem dX9_seen_20 : decode cX9_seen 20 = .ok (.iconst 1, 1) := by decide +kernel
theorem dX9_seen_21 : decode cX9_seen 21 = .ok (.invokestatic 50, 3) := by decide +kernel
theorem dX9_seen_24 : decode cX9_seen 24 = .ok (.ifCond .ne 5, 3) := by decide +kernel
theorem dX9_seen_27 : decode cX9_seen 27 = .ok (.iconst (-1), 1) := by decide +kernel
theorem dX9_seen_28 : decode cX9_seen 28 = .ok (.ireturn, 1) := by decide +kernel
theorem dX9_seen_29 : decode cX9_seen 29 = .ok (.aload_n 0, 1) := by decide +kernel
theorem dX9_seen_30 : decode cX9_seen 30 = .ok (.getfield 93, 3) := by decide +kernel
theorem dX9_seen_33 : decode cX9_seen 33 = .ok (.bipush 8, 2) := by decide +kernel
theorem dX9_seen_35 : decode cX9_seen 35 = .ok (.if_icmp .ne 6, 3) := by decide +kernel
theorem dX9_seen_38 : decode cX9_seen 38 = .ok (.bipush (-3), 2) := by decide +kernel
theorem dX9_seen_40 : decode cX9_seen 40 = .ok (.ireturn, 1) := by decide +kernel
theorem dX9_seen_41 : decode cX9_seen 41 = .ok (.aload_n 0, 1) := by decide +kernel
theorem dX9_seen_42 : decode cX9_seen 42 = .ok (.getfield 28, 3) := by decide +kernel
theorem dX9_seen_45 : decode cX9_seen 45 = .ok (.aload_n 0, 1) := by decide +kernel
theorem dX9_seen_46 : decode cX9_seen 46 = .ok (.getfield 93, 3) := by decide +kernel
theorem dX9_seen_49 : decode cX9_seen 49 = .ok (.bipush 100, 2) := by decide +kernel
theorem dX9_seen_51 : decode cX9_seen 51 = .ok (.iload_n 1, 1) := by decide +kernel
theorem dX9_seen_52 : decode cX9_seen 52 = .ok (.imul, 1) := by decide +kernel
theorem dX9_seen_53 : decode cX9_seen 53 = .ok (.iconst 2, 1) := by decide +kernel
theorem dX9_seen_54 : decode cX9_seen 54 = .ok (.iload_n 2, 1) := by decide +kernel
theorem dX9_seen_55 : decode cX9_seen 55 = .ok (.imul, 1) := by decide +kernel
theorem dX9_seen_56 : decode cX9_seen 56 = .ok (.iadd, 1) := by decide +kernel
theorem dX9_seen_57 : decode cX9_seen 57 = .ok (.iload_n 3, 1) := by decide +kernel
theorem dX9_seen_58 : decode cX9_seen 58 = .ok (.iadd, 1) := by decide +kernel
theorem dX9_seen_59 : decode cX9_seen 59 = .ok (.iastore, 1) := by decide +kernel
theorem dX9_seen_60 : decode cX9_seen 60 = .ok (.aload_n 0, 1) := by decide +kernel
theorem dX9_seen_61 : decode cX9_seen 61 = .ok (.dup, 1) := by decide +kernel
theorem dX9_seen_62 : decode cX9_seen 62 = .ok (.getfield 93, 3) := by decide +kernel
theorem dX9_seen_65 : decode cX9_seen 65 = .ok (.iconst 1, 1) := by decide +kernel
theorem dX9_seen_66 : decode cX9_seen 66 = .ok (.iadd, 1) := by decide +kernel
theorem dX9_seen_67 : decode cX9_seen 67 = .ok (.putfield 93, 3) := by decide +kernel
theorem dX9_seen_70 : decode cX9_seen 70 = .ok (.aload_n 0, 1) := by decide +kernel
theorem dX9_seen_71 : decode cX9_seen 71 = .ok (.getfield 93, 3) := by decide +kernel
theorem dX9_seen_74 : decode cX9_seen 74 = .ok (.ireturn, 1) := by decide +kernel
theorem dX9_forget_0 : decode cX9_forget 0 = .ok (.aload_n 0, 1) := by decide +kernel
theorem dX9_forget_1 : decode cX9_forget 1 = .ok (.getfield 93, 3) := by decide +kernel
theorem dX9_forget_4 : decode cX9_forget 4 = .ok (.istore_n 1, 1) := by decide +kernel
theorem dX9_forget_5 : decode cX9_forget 5 = .ok (.aload_n 0, 1) := by decide +kernel
theorem dX9_forget_6 : decode cX9_forget 6 = .ok (.iconst 0, 1) := by decide +kernel
theorem dX9_forget_7 : decode cX9_forget 7 = .ok (.putfield 93, 3) := by decide +kernel
theorem dX9_forget_10 : decode cX9_forget 10 = .ok (.iload_n 1, 1) := by decide +kernel
theorem dX9_forget_11 : decode cX9_forget 11 = .ok (.ireturn, 1) := by decide +kernel
theorem dX9_isSo_0 : decode cX9_isSo 0 = .ok (.iconst 1, 1) := by decide +kernel
theorem dX9_isSo_1 : decode cX9_isSo 1 = .ok (.istore 4, 2) := by decide +kernel
theorem dX9_isSo_3 : decode cX9_isSo 3 = .ok (.iconst 0, 1) := by decide +kernel
theorem dX9_isSo_4 : decode cX9_isSo 4 = .ok (.istore 5, 2) := by decide +kernel
theorem dX9_isSo_6 : decode cX9_isSo 6 = .ok (.iload 5, 2) := by decide +kernel
theorem dX9_isSo_8 : decode cX9_isSo 8 = .ok (.aload_n 0, 1) := by decide +kernel
theorem dX9_isSo_9 : decode cX9_isSo 9 = .ok (.getfield 93, 3) := by decide +kernel
theorem dX9_isSo_12 : decode cX9_isSo 12 = .ok (.if_icmp .ge 68, 3) := by decide +kernel
theorem dX9_isSo_15 : decode cX9_isSo 15 = .ok (.aload_n 0, 1) := by decide +kernel
theorem dX9_isSo_16 : decode cX9_isSo 16 = .ok (.getfield 28, 3) := by decide +kernel
theorem dX9_isSo_19 : decode cX9_isSo 19 = .ok (.iload 5, 2) := by decide +kernel
theorem dX9_isSo_21 : decode cX9_isSo 21 = .ok (.iaload, 1) := by decide +kernel
theorem dX9_isSo_22 : decode cX9_isSo 22 = .ok (.bipush 100, 2) := by decide +kernel
theorem dX9_isSo_24 : decode cX9_isSo 24 = .ok (.irem, 1) := by decide +kernel
theorem dX9_isSo_25 : decode cX9_isSo 25 = .ok (.iconst 2, 1) := by decide +kernel
theorem dX9_isSo_26 : decode cX9_isSo 26 = .ok (.idiv, 1) := by decide +kernel
theorem dX9_isSo_27 : decode cX9_isSo 27 = .ok (.istore 6, 2) := by decide +kernel
theorem dX9_isSo_29 : decode cX9_isSo 29 = .ok (.iload 4, 2) := by decide +kernel
theorem dX9_isSo_31 : decode cX9_isSo 31 = .ok (.ifCond .eq 40, 3) := by decide +kernel
theorem dX9_isSo_34 : decode cX9_isSo 34 = .ok (.aload_n 0, 1) := by decide +kernel
theorem dX9_isSo_35 : decode cX9_isSo 35 = .ok (.getfield 28, 3) := by decide +kernel
theorem dX9_isSo_38 : decode cX9_isSo 38 = .ok (.iload 5, 2) := by decide +kernel
theorem dX9_isSo_40 : decode cX9_isSo 40 = .ok (.iaload, 1) := by decide +kernel
theorem dX9_isSo_41 : decode cX9_isSo 41 = .ok (.bipush 100, 2) := by decide +kernel
theorem dX9_isSo_43 : decode cX9_isSo 43 = .ok (.idiv, 1) := by decide +kernel
theorem dX9_isSo_44 : decode cX9_isSo 44 = .ok (.iload_n 1, 1) := by decide +kernel
theorem dX9_isSo_45 : decode cX9_isSo 45 = .ok (.if_icmp .ne 22, 3) := by decide +kernel
theorem dX9_isSo_48 : decode cX9_isSo 48 = .ok (.iload_n 2, 1) := by decide +kernel
theorem dX9_isSo_49 : decode cX9_isSo 49 = .ok (.iload_n 3, 1) := by decide +kernel
theorem dX9_isSo_50 : decode cX9_isSo 50 = .ok (.aload_n 0, 1) := by decide +kernel
theorem dX9_isSo_51 : decode cX9_isSo 51 = .ok (.getfield 28, 3) := by decide +kernel
theorem dX9_isSo_54 : decode cX9_isSo 54 = .ok (.iload 5, 2) := by decide +kernel
theorem dX9_isSo_56 : decode cX9_isSo 56 = .ok (.iaload, 1) := by decide +kernel
theorem dX9_isSo_57 : decode cX9_isSo 57 = .ok (.iconst 2, 1) := by decide +kernel
theorem dX9_isSo_58 : decode cX9_isSo 58 = .ok (.irem, 1) := by decide +kernel
theorem dX9_isSo_59 : decode cX9_isSo 59 = .ok (.invokestatic 96, 3) := by decide +kernel
theorem dX9_isSo_62 : decode cX9_isSo 62 = .ok (.iload 6, 2) := by decide +kernel
theorem dX9_isSo_64 : decode cX9_isSo 64 = .ok (.if_icmp .ne 7, 3) := by decide +kernel
theorem dX9_isSo_67 : decode cX9_isSo 67 = .ok (.iconst 1, 1) := by decide +kernel
theorem dX9_isSo_68 : decode cX9_isSo 68 = .ok (.goto 4, 3) := by decide +kernel
theorem dX9_isSo_71 : decode cX9_isSo 71 = .ok (.iconst 0, 1) := by decide +kernel
theorem dX9_isSo_72 : decode cX9_isSo 72 = .ok (.istore 4, 2) := by decide +kernel
theorem dX9_isSo_74 : decode cX9_isSo 74 = .ok (.iinc 5 1, 3) := by decide +kernel
theorem dX9_isSo_77 : decode cX9_isSo 77 = .ok (.goto (-71), 3) := by decide +kernel
theorem dX9_isSo_80 : decode cX9_isSo 80 = .ok (.iload 4, 2) := by decide +kernel
theorem dX9_isSo_82 : decode cX9_isSo 82 = .ok (.ireturn, 1) := by decide +kernel
theorem dX9_kinds_0 : decode cX9_kinds 0 = .ok (.aload_n 0, 1) := by decide +kernel
theorem dX9_kinds_1 : decode cX9_kinds 1 = .ok (.iload_n 1, 1) := by decide +kernel
theorem dX9_kinds_2 : decode cX9_kinds 2 = .ok (.invokevirtual 99, 3) := by decide +kernel
theorem dX9_kinds_5 : decode cX9_kinds 5 = .ok (.ifCond .ne 5, 3) := by decide +kernel
theorem dX9_kinds_8 : decode cX9_kinds 8 = .ok (.iconst (-1), 1) := by decide +kernel
theorem dX9_kinds_9 : decode cX9_kinds 9 = .ok (.ireturn, 1) := by decide +kernel
theorem dX9_kinds_10 : decode cX9_kinds 10 = .ok (.iconst 0, 1) := by decide +kernel
theorem dX9_kinds_11 : decode cX9_kinds 11 = .ok (.istore_n 2, 1) := by decide +kernel
theorem dX9_kinds_12 : decode cX9_kinds 12 = .ok (.iconst 0, 1) := by decide +kernel
theorem dX9_kinds_13 : decode cX9_kinds 13 = .ok (.istore_n 3, 1) := by decide +kernel
theorem dX9_kinds_14 : decode cX9_kinds 14 = .ok (.iload_n 3, 1) := by decide +kernel
theorem dX9_kinds_15 : decode cX9_kinds 15 = .ok (.iconst 4, 1) := by decide +kernel
theorem dX9_kinds_16 : decode cX9_kinds 16 = .ok (.if_icmp .ge 37, 3) := by decide +kernel
theorem dX9_kinds_19 : decode cX9_kinds 19 = .ok (.iload_n 2, 1) := by decide +kernel
theorem dX9_kinds_20 : decode cX9_kinds 20 = .ok (.aload_n 0, 1) := by decide +kernel
theorem dX9_kinds_21 : decode cX9_kinds 21 = .ok (.iload_n 1, 1) := by decide +kernel
theorem dX9_kinds_22 : decode cX9_kinds 22 = .ok (.iload_n 3, 1) := by decide +kernel
theorem dX9_kinds_23 : decode cX9_kinds 23 = .ok (.aload_n 0, 1) := by decide +kernel
theorem dX9_kinds_24 : decode cX9_kinds 24 = .ok (.getfield 13, 3) := by decide +kernel
theorem dX9_kinds_27 : decode cX9_kinds 27 = .ok (.bipush 11, 2) := by decide +kernel
theorem dX9_kinds_29 : decode cX9_kinds 29 = .ok (.iload_n 1, 1) := by decide +kernel
theorem dX9_kinds_30 : decode cX9_kinds 30 = .ok (.iadd, 1) := by decide +kernel
theorem dX9_kinds_31 : decode cX9_kinds 31 = .ok (.iaload, 1) := by decide +kernel
theorem dX9_kinds_32 : decode cX9_kinds 32 = .ok (.invokevirtual 170, 3) := by decide +kernel
theorem dX9_kinds_35 : decode cX9_kinds 35 = .ok (.ifCond .eq 9, 3) := by decide +kernel
theorem dX9_kinds_38 : decode cX9_kinds 38 = .ok (.iconst 1, 1) := by decide +kernel
theorem dX9_kinds_39 : decode cX9_kinds 39 = .ok (.iload_n 3, 1) := by decide +kernel
theorem dX9_kinds_40 : decode cX9_kinds 40 = .ok (.ishl, 1) := by decide +kernel
theorem dX9_kinds_41 : decode cX9_kinds 41 = .ok (.goto 4, 3) := by decide +kernel
theorem dX9_kinds_44 : decode cX9_kinds 44 = .ok (.iconst 0, 1) := by decide +kernel
theorem dX9_kinds_45 : decode cX9_kinds 45 = .ok (.ior, 1) := by decide +kernel
theorem dX9_kinds_46 : decode cX9_kinds 46 = .ok (.istore_n 2, 1) := by decide +kernel
theorem dX9_kinds_47 : decode cX9_kinds 47 = .ok (.iinc 3 1, 3) := by decide +kernel
theorem dX9_kinds_50 : decode cX9_kinds 50 = .ok (.goto (-36), 3) := by decide +kernel
theorem dX9_kinds_53 : decode cX9_kinds 53 = .ok (.iload_n 2, 1) := by decide +kernel
theorem dX9_kinds_54 : decode cX9_kinds 54 = .ok (.ireturn, 1) := by decide +kernel
theorem dX9_takes_0 : decode cX9_takes 0 = .ok (.aload_n 0, 1) := by decide +kernel
theorem dX9_takes_1 : decode cX9_takes 1 = .ok (.iload_n 1, 1) := by decide +kernel
theorem dX9_takes_2 : decode cX9_takes 2 = .ok (.invokevirtual 99, 3) := by decide +kernel
theorem dX9_takes_5 : decode cX9_takes 5 = .ok (.ifCond .eq 12, 3) := by decide +kernel
theorem dX9_takes_8 : decode cX9_takes 8 = .ok (.iload_n 2, 1) := by decide +kernel
theorem dX9_takes_9 : decode cX9_takes 9 = .ok (.iconst 0, 1) := by decide +kernel
theorem dX9_takes_10 : decode cX9_takes 10 = .ok (.iconst 1, 1) := by decide +kernel
theorem dX9_takes_11 : decode cX9_takes 11 = .ok (.invokestatic 50, 3) := by decide +kernel
theorem dX9_takes_14 : decode cX9_takes 14 = .ok (.ifCond .ne 5, 3) := by decide +kernel
theorem dX9_takes_17 : decode cX9_takes 17 = .ok (.iconst (-1), 1) := by decide +kernel
theorem dX9_takes_18 : decode cX9_takes 18 = .ok (.ireturn, 1) := by decide +kernel
theorem dX9_takes_19 : decode cX9_takes 19 = .ok (.iconst 0, 1) := by decide +kernel
theorem dX9_takes_20 : decode cX9_takes 20 = .ok (.istore_n 3, 1) := by decide +kernel
theorem dX9_takes_21 : decode cX9_takes 21 = .ok (.bipush (-4), 2) := by decide +kernel
theorem dX9_takes_23 : decode cX9_takes 23 = .ok (.istore 4, 2) := by decide +kernel
theorem dX9_takes_25 : decode cX9_takes 25 = .ok (.bipush 12, 2) := by decide +kernel
theorem dX9_takes_27 : decode cX9_takes 27 = .ok (.istore 5, 2) := by decide +kernel
theorem dX9_takes_29 : decode cX9_takes 29 = .ok (.iload 5, 2) := by decide +kernel
theorem dX9_takes_31 : decode cX9_takes 31 = .ok (.ifCond .le 53, 3) := by decide +kernel
theorem dX9_takes_34 : decode cX9_takes 34 = .ok (.aload_n 0, 1) := by decide +kernel
theorem dX9_takes_35 : decode cX9_takes 35 = .ok (.iload_n 1, 1) := by decide +kernel
theorem dX9_takes_36 : decode cX9_takes 36 = .ok (.aload_n 0, 1) := by decide +kernel
theorem dX9_takes_37 : decode cX9_takes 37 = .ok (.getfield 13, 3) := by decide +kernel
theorem dX9_takes_40 : decode cX9_takes 40 = .ok (.iconst 5, 1) := by decide +kernel
theorem dX9_takes_41 : decode cX9_takes 41 = .ok (.iload_n 1, 1) := by decide +kernel
theorem dX9_takes_42 : decode cX9_takes 42 = .ok (.iadd, 1) := by decide +kernel
theorem dX9_takes_43 : decode cX9_takes 43 = .ok (.iaload, 1) := by decide +kernel
theorem dX9_takes_44 : decode cX9_takes 44 = .ok (.iload 5, 2) := by decide +kernel
theorem dX9_takes_46 : decode cX9_takes 46 = .ok (.invokevirtual 170, 3) := by decide +kernel
theorem dX9_takes_49 : decode cX9_takes 49 = .ok (.istore 6, 2) := by decide +kernel
theorem dX9_takes_51 : decode cX9_takes 51 = .ok (.iload_n 3, 1) := by decide +kernel
theorem dX9_takes_52 : decode cX9_takes 52 = .ok (.iload 6, 2) := by decide +kernel
theorem dX9_takes_54 : decode cX9_takes 54 = .ok (.ifCond .eq 7, 3) := by decide +kernel
theorem dX9_takes_57 : decode cX9_takes 57 = .ok (.iconst 1, 1) := by decide +kernel
theorem dX9_takes_58 : decode cX9_takes 58 = .ok (.goto 4, 3) := by decide +kernel
theorem dX9_takes_61 : decode cX9_takes 61 = .ok (.iconst 0, 1) := by decide +kernel
theorem dX9_takes_62 : decode cX9_takes 62 = .ok (.iadd, 1) := by decide +kernel
theorem dX9_takes_63 : decode cX9_takes 63 = .ok (.istore_n 3, 1) := by decide +kernel
theorem dX9_takes_64 : decode cX9_takes 64 = .ok (.iload 6, 2) := by decide +kernel
theorem dX9_takes_66 : decode cX9_takes 66 = .ok (.ifCond .eq 8, 3) := by decide +kernel
theorem dX9_takes_69 : decode cX9_takes 69 = .ok (.iload 5, 2) := by decide +kernel
theorem dX9_takes_71 : decode cX9_takes 71 = .ok (.goto 5, 3) := by decide +kernel
theorem dX9_takes_74 : decode cX9_takes 74 = .ok (.iload 4, 2) := by decide +kernel
theorem dX9_takes_76 : decode cX9_takes 76 = .ok (.istore 4, 2) := by decide +kernel
theorem dX9_takes_78 : decode cX9_takes 78 = .ok (.iinc 5 (-1), 3) := by decide +kernel
theorem dX9_takes_81 : decode cX9_takes 81 = .ok (.goto (-52), 3) := by decide +kernel
theorem dX9_takes_84 : decode cX9_takes 84 = .ok (.iload_n 2, 1) := by decide +kernel
theorem dX9_takes_85 : decode cX9_takes 85 = .ok (.ifCond .ne 7, 3) := by decide +kernel
theorem dX9_takes_88 : decode cX9_takes 88 = .ok (.iload_n 3, 1) := by decide +kernel
theorem dX9_takes_89 : decode cX9_takes 89 = .ok (.goto 5, 3) := by decide +kernel
theorem dX9_takes_92 : decode cX9_takes 92 = .ok (.iload 4, 2) := by decide +kernel
theorem dX9_takes_94 : decode cX9_takes 94 = .ok (.ireturn, 1) := by decide +kernel
theorem dX9_must_0 : decode cX9_must 0 = .ok (.iload_n 1, 1) := by decide +kernel
theorem dX9_must_1 : decode cX9_must 1 = .ok (.iconst 0, 1) := by decide +kernel
theorem dX9_must_2 : decode cX9_must 2 = .ok (.bipush 6, 2) := by decide +kernel
theorem dX9_must_4 : decode cX9_must 4 = .ok (.invokestatic 50, 3) := by decide +kernel
theorem dX9_must_7 : decode cX9_must 7 = .ok (.ifCond .eq 22, 3) := by decide +kernel
theorem dX9_must_10 : decode cX9_must 10 = .ok (.iload_n 2, 1) := by decide +kernel
theorem dX9_must_11 : decode cX9_must 11 = .ok (.iconst 0, 1) := by decide +kernel
theorem dX9_must_12 : decode cX9_must 12 = .ok (.bipush 10, 2) := by decide +kernel
theorem dX9_must_14 : decode cX9_must 14 = .ok (.invokestatic 50, 3) := by decide +kernel
theorem dX9_must_17 : decode cX9_must 17 = .ok (.ifCond .eq 12, 3) := by decide +kernel
theorem dX9_must_20 : decode cX9_must 20 = .ok (.iload_n 3, 1) := by decide +kernel
theorem dX9_must_21 : decode cX9_must 21 = .ok (.iconst 0, 1) := by decide +kernel
theorem dX9_must_22 : decode cX9_must 22 = .ok (.iconst 1, 1) := by decide +kernel
theorem dX9_must_23 : decode cX9_must 23 = .ok (.invokestatic 50, 3) := by decide +kernel
theorem dX9_must_26 : decode cX9_must 26 = .ok (.ifCond .ne 5, 3) := by decide +kernel
theorem dX9_must_29 : decode cX9_must 29 = .ok (.iconst (-1), 1) := by decide +kernel
theorem dX9_must_30 : decode cX9_must 30 = .ok (.ireturn, 1) := by decide +kernel
theorem dX9_must_31 : decode cX9_must 31 = .ok (.iconst 1, 1) := by decide +kernel
theorem dX9_must_32 : decode cX9_must 32 = .ok (.istore 4, 2) := by decide +kernel
theorem dX9_must_34 : decode cX9_must 34 = .ok (.iconst 0, 1) := by decide +kernel
theorem dX9_must_35 : decode cX9_must 35 = .ok (.istore 5, 2) := by decide +kernel
theorem dX9_must_37 : decode cX9_must 37 = .ok (.iload 5, 2) := by decide +kernel
theorem dX9_must_39 : decode cX9_must 39 = .ok (.bipush 7, 2) := by decide +kernel
theorem dX9_must_41 : decode cX9_must 41 = .ok (.if_icmp .ge 26, 3) := by decide +kernel
theorem dX9_must_44 : decode cX9_must 44 = .ok (.aload_n 0, 1) := by decide +kernel
theorem dX9_must_45 : decode cX9_must 45 = .ok (.getfield 37, 3) := by decide +kernel
theorem dX9_must_48 : decode cX9_must 48 = .ok (.iload 5, 2) := by decide +kernel
theorem dX9_must_50 : decode cX9_must 50 = .ok (.iload 5, 2) := by decide +kernel
theorem dX9_must_52 : decode cX9_must 52 = .ok (.ifCond .ne 7, 3) := by decide +kernel
theorem dX9_must_55 : decode cX9_must 55 = .ok (.iconst 1, 1) := by decide +kernel
theorem dX9_must_56 : decode cX9_must 56 = .ok (.goto 4, 3) := by decide +kernel
theorem dX9_must_59 : decode cX9_must 59 = .ok (.iconst 0, 1) := by decide +kernel
theorem dX9_must_60 : decode cX9_must 60 = .ok (.iastore, 1) := by decide +kernel
theorem dX9_must_61 : decode cX9_must 61 = .ok (.iinc 5 1, 3) := by decide +kernel
theorem dX9_must_64 : decode cX9_must 64 = .ok (.goto (-27), 3) := by decide +kernel
theorem dX9_must_67 : decode cX9_must 67 = .ok (.iconst 0, 1) := by decide +kernel
theorem dX9_must_68 : decode cX9_must 68 = .ok (.istore 5, 2) := by decide +kernel
theorem dX9_must_70 : decode cX9_must 70 = .ok (.iload 5, 2) := by decide +kernel
theorem dX9_must_72 : decode cX9_must 72 = .ok (.aload_n 0, 1) := by decide +kernel
theorem dX9_must_73 : decode cX9_must 73 = .ok (.iconst 2, 1) := by decide +kernel
theorem dX9_must_74 : decode cX9_must 74 = .ok (.invokevirtual 131, 3) := by decide +kernel
theorem dX9_must_77 : decode cX9_must 77 = .ok (.if_icmp .ge 71, 3) := by decide +kernel
theorem dX9_must_80 : decode cX9_must 80 = .ok (.iload 4, 2) := by decide +kernel
theorem dX9_must_82 : decode cX9_must 82 = .ok (.bipush 10, 2) := by decide +kernel
theorem dX9_must_84 : decode cX9_must 84 = .ok (.imul, 1) := by decide +kernel
theorem dX9_must_85 : decode cX9_must 85 = .ok (.istore 4, 2) := by decide +kernel
theorem dX9_must_87 : decode cX9_must 87 = .ok (.bipush 6, 2) := by decide +kernel
theorem dX9_must_89 : decode cX9_must 89 = .ok (.istore 6, 2) := by decide +kernel
theorem dX9_must_91 : decode cX9_must 91 = .ok (.iload 6, 2) := by decide +kernel
theorem dX9_must_93 : decode cX9_must 93 = .ok (.ifCond .lt 49, 3) := by decide +kernel
theorem dX9_must_96 : decode cX9_must 96 = .ok (.aload_n 0, 1) := by decide +kernel
theorem dX9_must_97 : decode cX9_must 97 = .ok (.getfield 37, 3) := by decide +kernel
theorem dX9_must_100 : decode cX9_must 100 = .ok (.iload 6, 2) := by decide +kernel
theorem dX9_must_102 : decode cX9_must 102 = .ok (.aload_n 0, 1) := by decide +kernel
theorem dX9_must_103 : decode cX9_must 103 = .ok (.getfield 37, 3) := by decide +kernel
theorem dX9_must_106 : decode cX9_must 106 = .ok (.iload 6, 2) := by decide +kernel
theorem dX9_must_108 : decode cX9_must 108 = .ok (.iaload, 1) := by decide +kernel
theorem dX9_must_109 : decode cX9_must 109 = .ok (.bipush 10, 2) := by decide +kernel
theorem dX9_must_111 : decode cX9_must 111 = .ok (.iload_n 2, 1) := by decide +kernel
theorem dX9_must_112 : decode cX9_must 112 = .ok (.isub, 1) := by decide +kernel
theorem dX9_must_113 : decode cX9_must 113 = .ok (.imul, 1) := by decide +kernel
theorem dX9_must_114 : decode cX9_must 114 = .ok (.iload 6, 2) := by decide +kernel
theorem dX9_must_116 : decode cX9_must 116 = .ok (.ifCond .ne 7, 3) := by decide +kernel
theorem dX9_must_119 : decode cX9_must 119 = .ok (.iconst 0, 1) := by decide +kernel
theorem dX9_must_120 : decode cX9_must 120 = .ok (.goto 14, 3) := by decide +kernel
theorem dX9_must_123 : decode cX9_must 123 = .ok (.aload_n 0, 1) := by decide +kernel
theorem dX9_must_124 : decode cX9_must 124 = .ok (.getfield 37, 3) := by decide +kernel
theorem dX9_must_127 : decode cX9_must 127 = .ok (.iload 6, 2) := by decide +kernel
theorem dX9_must_129 : decode cX9_must 129 = .ok (.iconst 1, 1) := by decide +kernel
theorem dX9_must_130 : decode cX9_must 130 = .ok (.isub, 1) := by decide +kernel
theorem dX9_must_131 : decode cX9_must 131 = .ok (.iaload, 1) := by decide +kernel
theorem dX9_must_132 : decode cX9_must 132 = .ok (.iload_n 2, 1) := by decide +kernel
theorem dX9_must_133 : decode cX9_must 133 = .ok (.imul, 1) := by decide +kernel
theorem dX9_must_134 : decode cX9_must 134 = .ok (.iadd, 1) := by decide +kernel
theorem dX9_must_135 : decode cX9_must 135 = .ok (.iastore, 1) := by decide +kernel
theorem dX9_must_136 : decode cX9_must 136 = .ok (.iinc 6 (-1), 3) := by decide +kernel
theorem dX9_must_139 : decode cX9_must 139 = .ok (.goto (-48), 3) := by decide +kernel
theorem dX9_must_142 : decode cX9_must 142 = .ok (.iinc 5 1, 3) := by decide +kernel
theorem dX9_must_145 : decode cX9_must 145 = .ok (.goto (-75), 3) := by decide +kernel
theorem dX9_must_148 : decode cX9_must 148 = .ok (.iconst 0, 1) := by decide +kernel
theorem dX9_must_149 : decode cX9_must 149 = .ok (.istore 5, 2) := by decide +kernel
theorem dX9_must_151 : decode cX9_must 151 = .ok (.iload_n 1, 1) := by decide +kernel
theorem dX9_must_152 : decode cX9_must 152 = .ok (.istore 6, 2) := by decide +kernel
theorem dX9_must_154 : decode cX9_must 154 = .ok (.iload 6, 2) := by decide +kernel
theorem dX9_must_156 : decode cX9_must 156 = .ok (.bipush 7, 2) := by decide +kernel
theorem dX9_must_158 : decode cX9_must 158 = .ok (.if_icmp .ge 21, 3) := by decide +kernel
theorem dX9_must_161 : decode cX9_must 161 = .ok (.iload 5, 2) := by decide +kernel
theorem dX9_must_163 : decode cX9_must 163 = .ok (.aload_n 0, 1) := by decide +kernel
theorem dX9_must_164 : decode cX9_must 164 = .ok (.getfield 37, 3) := by decide +kernel
theorem dX9_must_167 : decode cX9_must 167 = .ok (.iload 6, 2) := by decide +kernel
theorem dX9_must_169 : decode cX9_must 169 = .ok (.iaload, 1) := by decide +kernel
theorem dX9_must_170 : decode cX9_must 170 = .ok (.iadd, 1) := by decide +kernel
theorem dX9_must_171 : decode cX9_must 171 = .ok (.istore 5, 2) := by decide +kernel
theorem dX9_must_173 : decode cX9_must 173 = .ok (.iinc 6 1, 3) := by decide +kernel
theorem dX9_must_176 : decode cX9_must 176 = .ok (.goto (-22), 3) := by decide +kernel
theorem dX9_must_179 : decode cX9_must 179 = .ok (.iload 5, 2) := by decide +kernel
theorem dX9_must_181 : decode cX9_must 181 = .ok (.istore 6, 2) := by decide +kernel
theorem dX9_must_183 : decode cX9_must 183 = .ok (.iload 4, 2) := by decide +kernel
theorem dX9_must_185 : decode cX9_must 185 = .ok (.istore 7, 2) := by decide +kernel
theorem dX9_must_187 : decode cX9_must 187 = .ok (.iload 7, 2) := by decide +kernel
theorem dX9_must_189 : decode cX9_must 189 = .ok (.ifCond .le 21, 3) := by decide +kernel
theorem dX9_must_192 : decode cX9_must 192 = .ok (.iload 6, 2) := by decide +kernel
theorem dX9_must_194 : decode cX9_must 194 = .ok (.iload 7, 2) := by decide +kernel
theorem dX9_must_196 : decode cX9_must 196 = .ok (.irem, 1) := by decide +kernel
theorem dX9_must_197 : decode cX9_must 197 = .ok (.istore 8, 2) := by decide +kernel
theorem dX9_must_199 : decode cX9_must 199 = .ok (.iload 7, 2) := by decide +kernel
theorem dX9_must_201 : decode cX9_must 201 = .ok (.istore 6, 2) := by decide +kernel
theorem dX9_must_203 : decode cX9_must 203 = .ok (.iload 8, 2) := by decide +kernel
theorem dX9_must_205 : decode cX9_must 205 = .ok (.istore 7, 2) := by decide +kernel
theorem dX9_must_207 : decode cX9_must 207 = .ok (.goto (-20), 3) := by decide +kernel
theorem dX9_must_210 : decode cX9_must 210 = .ok (.iload_n 3, 1) := by decide +kernel
theorem dX9_must_211 : decode cX9_must 211 = .ok (.ifCond .ne 11, 3) := by decide +kernel
theorem dX9_must_214 : decode cX9_must 214 = .ok (.iload 5, 2) := by decide +kernel
theorem dX9_must_216 : decode cX9_must 216 = .ok (.iload 6, 2) := by decide +kernel
theorem dX9_must_218 : decode cX9_must 218 = .ok (.idiv, 1) := by decide +kernel
theorem dX9_must_219 : decode cX9_must 219 = .ok (.goto 8, 3) := by decide +kernel
theorem dX9_must_222 : decode cX9_must 222 = .ok (.iload 4, 2) := by decide +kernel
theorem dX9_must_224 : decode cX9_must 224 = .ok (.iload 6, 2) := by decide +kernel
theorem dX9_must_226 : decode cX9_must 226 = .ok (.idiv, 1) := by decide +kernel
theorem dX9_must_227 : decode cX9_must 227 = .ok (.ireturn, 1) := by decide +kernel
theorem dX9_turn_0 : decode cX9_turn 0 = .ok (.iload_n 1, 1) := by decide +kernel
theorem dX9_turn_1 : decode cX9_turn 1 = .ok (.aload_n 0, 1) := by decide +kernel
theorem dX9_turn_2 : decode cX9_turn 2 = .ok (.getfield 13, 3) := by decide +kernel
theorem dX9_turn_5 : decode cX9_turn 5 = .ok (.iconst 0, 1) := by decide +kernel
theorem dX9_turn_6 : decode cX9_turn 6 = .ok (.iaload, 1) := by decide +kernel
theorem dX9_turn_7 : decode cX9_turn 7 = .ok (.irem, 1) := by decide +kernel
theorem dX9_turn_8 : decode cX9_turn 8 = .ok (.istore_n 2, 1) := by decide +kernel
theorem dX9_turn_9 : decode cX9_turn 9 = .ok (.aload_n 0, 1) := by decide +kernel
theorem dX9_turn_10 : decode cX9_turn 10 = .ok (.getfield 19, 3) := by decide +kernel
theorem dX9_turn_13 : decode cX9_turn 13 = .ok (.iload_n 2, 1) := by decide +kernel
theorem dX9_turn_14 : decode cX9_turn 14 = .ok (.iaload, 1) := by decide +kernel
theorem dX9_turn_15 : decode cX9_turn 15 = .ok (.ifCond .ne 21, 3) := by decide +kernel
theorem dX9_turn_18 : decode cX9_turn 18 = .ok (.aload_n 0, 1) := by decide +kernel
theorem dX9_turn_19 : decode cX9_turn 19 = .ok (.invokevirtual 167, 3) := by decide +kernel
theorem dX9_turn_22 : decode cX9_turn 22 = .ok (.bipush (-4), 2) := by decide +kernel
theorem dX9_turn_24 : decode cX9_turn 24 = .ok (.if_icmp .eq 12, 3) := by decide +kernel
theorem dX9_turn_27 : decode cX9_turn 27 = .ok (.aload_n 0, 1) := by decide +kernel
theorem dX9_turn_28 : decode cX9_turn 28 = .ok (.aload_n 0, 1) := by decide +kernel
theorem dX9_turn_29 : decode cX9_turn 29 = .ok (.invokevirtual 167, 3) := by decide +kernel
theorem dX9_turn_32 : decode cX9_turn 32 = .ok (.iload_n 2, 1) := by decide +kernel
theorem dX9_turn_33 : decode cX9_turn 33 = .ok (.invokevirtual 118, 3) := by decide +kernel
theorem dX9_turn_36 : decode cX9_turn 36 = .ok (.iload_n 1, 1) := by decide +kernel
theorem dX9_turn_37 : decode cX9_turn 37 = .ok (.bipush 8, 2) := by decide +kernel
theorem dX9_turn_39 : decode cX9_turn 39 = .ok (.idiv, 1) := by decide +kernel
theorem dX9_turn_40 : decode cX9_turn 40 = .ok (.iconst 3, 1) := by decide +kernel
theorem dX9_turn_41 : decode cX9_turn 41 = .ok (.irem, 1) := by decide +kernel
theorem dX9_turn_42 : decode cX9_turn 42 = .ok (.ifCond .ne 37, 3) := by decide +kernel
theorem dX9_turn_45 : decode cX9_turn 45 = .ok (.aload_n 0, 1) := by decide +kernel
theorem dX9_turn_46 : decode cX9_turn 46 = .ok (.invokevirtual 140, 3) := by decide +kernel
theorem dX9_turn_49 : decode cX9_turn 49 = .ok (.bipush (-4), 2) := by decide +kernel
theorem dX9_turn_51 : decode cX9_turn 51 = .ok (.if_icmp .eq 28, 3) := by decide +kernel
theorem dX9_turn_54 : decode cX9_turn 54 = .ok (.aload_n 0, 1) := by decide +kernel
theorem dX9_turn_55 : decode cX9_turn 55 = .ok (.invokevirtual 128, 3) := by decide +kernel
theorem dX9_turn_58 : decode cX9_turn 58 = .ok (.iconst 1, 1) := by decide +kernel
theorem dX9_turn_59 : decode cX9_turn 59 = .ok (.if_icmp .le 20, 3) := by decide +kernel
theorem dX9_turn_62 : decode cX9_turn 62 = .ok (.aload_n 0, 1) := by decide +kernel
theorem dX9_turn_63 : decode cX9_turn 63 = .ok (.iconst 2, 1) := by decide +kernel
theorem dX9_turn_64 : decode cX9_turn 64 = .ok (.invokevirtual 131, 3) := by decide +kernel
theorem dX9_turn_67 : decode cX9_turn 67 = .ok (.ifCond .le 12, 3) := by decide +kernel
theorem dX9_turn_70 : decode cX9_turn 70 = .ok (.aload_n 0, 1) := by decide +kernel
theorem dX9_turn_71 : decode cX9_turn 71 = .ok (.aload_n 0, 1) := by decide +kernel
theorem dX9_turn_72 : decode cX9_turn 72 = .ok (.invokevirtual 140, 3) := by decide +kernel
theorem dX9_turn_75 : decode cX9_turn 75 = .ok (.invokevirtual 134, 3) := by decide +kernel
theorem dX9_turn_78 : decode cX9_turn 78 = .ok (.pop, 1) := by decide +kernel
theorem dX9_turn_79 : decode cX9_turn 79 = .ok (.aload_n 0, 1) := by decide +kernel
theorem dX9_turn_80 : decode cX9_turn 80 = .ok (.invokevirtual 137, 3) := by decide +kernel
theorem dX9_turn_83 : decode cX9_turn 83 = .ok (.ireturn, 1) := by decide +kernel
theorem dX9_morning_0 : decode cX9_morning 0 = .ok (.iload_n 1, 1) := by decide +kernel
theorem dX9_morning_1 : decode cX9_morning 1 = .ok (.iconst 0, 1) := by decide +kernel
theorem dX9_morning_2 : decode cX9_morning 2 = .ok (.sipush 9999, 3) := by decide +kernel
theorem dX9_morning_5 : decode cX9_morning 5 = .ok (.invokestatic 50, 3) := by decide +kernel
theorem dX9_morning_8 : decode cX9_morning 8 = .ok (.ifCond .eq 22, 3) := by decide +kernel
theorem dX9_morning_11 : decode cX9_morning 11 = .ok (.iload_n 2, 1) := by decide +kernel
theorem dX9_morning_12 : decode cX9_morning 12 = .ok (.iconst 1, 1) := by decide +kernel
theorem dX9_morning_13 : decode cX9_morning 13 = .ok (.bipush 60, 2) := by decide +kernel
theorem dX9_morning_15 : decode cX9_morning 15 = .ok (.invokestatic 50, 3) := by decide +kernel
theorem dX9_morning_18 : decode cX9_morning 18 = .ok (.ifCond .eq 12, 3) := by decide +kernel
theorem dX9_morning_21 : decode cX9_morning 21 = .ok (.iload_n 3, 1) := by decide +kernel
theorem dX9_morning_22 : decode cX9_morning 22 = .ok (.iconst 0, 1) := by decide +kernel
theorem dX9_morning_23 : decode cX9_morning 23 = .ok (.iconst 1, 1) := by decide +kernel
theorem dX9_morning_24 : decode cX9_morning 24 = .ok (.invokestatic 50, 3) := by decide +kernel
theorem dX9_morning_27 : decode cX9_morning 27 = .ok (.ifCond .ne 5, 3) := by decide +kernel
theorem dX9_morning_30 : decode cX9_morning 30 = .ok (.iconst (-1), 1) := by decide +kernel
theorem dX9_morning_31 : decode cX9_morning 31 = .ok (.ireturn, 1) := by decide +kernel
theorem dX9_morning_32 : decode cX9_morning 32 = .ok (.aload_n 0, 1) := by decide +kernel
theorem dX9_morning_33 : decode cX9_morning 33 = .ok (.invokevirtual 158, 3) := by decide +kernel
theorem dX9_morning_36 : decode cX9_morning 36 = .ok (.iconst 0, 1) := by decide +kernel
theorem dX9_morning_37 : decode cX9_morning 37 = .ok (.istore 4, 2) := by decide +kernel
theorem dX9_morning_39 : decode cX9_morning 39 = .ok (.iconst 0, 1) := by decide +kernel
theorem dX9_morning_40 : decode cX9_morning 40 = .ok (.istore 5, 2) := by decide +kernel
theorem dX9_morning_42 : decode cX9_morning 42 = .ok (.iload 5, 2) := by decide +kernel
theorem dX9_morning_44 : decode cX9_morning 44 = .ok (.iload_n 2, 1) := by decide +kernel
theorem dX9_morning_45 : decode cX9_morning 45 = .ok (.if_icmp .ge 48, 3) := by decide +kernel
theorem dX9_morning_48 : decode cX9_morning 48 = .ok (.ldc2_w 173, 3) := by decide +kernel
theorem dX9_morning_51 : decode cX9_morning 51 = .ok (.iload_n 1, 1) := by decide +kernel
theorem dX9_morning_52 : decode cX9_morning 52 = .ok (.i2l, 1) := by decide +kernel
theorem dX9_morning_53 : decode cX9_morning 53 = .ok (.lmul, 1) := by decide +kernel
theorem dX9_morning_54 : decode cX9_morning 54 = .ok (.ldc2_w 175, 3) := by decide +kernel
theorem dX9_morning_57 : decode cX9_morning 57 = .ok (.iload 5, 2) := by decide +kernel
theorem dX9_morning_59 : decode cX9_morning 59 = .ok (.i2l, 1) := by decide +kernel
theorem dX9_morning_60 : decode cX9_morning 60 = .ok (.lmul, 1) := by decide +kernel
theorem dX9_morning_61 : decode cX9_morning 61 = .ok (.ladd, 1) := by decide +kernel
theorem dX9_morning_62 : decode cX9_morning 62 = .ok (.lconst 1, 1) := by decide +kernel
theorem dX9_morning_63 : decode cX9_morning 63 = .ok (.ladd, 1) := by decide +kernel
theorem dX9_morning_64 : decode cX9_morning 64 = .ok (.lstore 6, 2) := by decide +kernel
theorem dX9_morning_66 : decode cX9_morning 66 = .ok (.iload 4, 2) := by decide +kernel
theorem dX9_morning_68 : decode cX9_morning 68 = .ok (.aload_n 0, 1) := by decide +kernel
theorem dX9_morning_69 : decode cX9_morning 69 = .ok (.lload 6, 2) := by decide +kernel
theorem dX9_morning_71 : decode cX9_morning 71 = .ok (.lload 6, 2) := by decide +kernel
theorem dX9_morning_73 : decode cX9_morning 73 = .ok (.lmul, 1) := by decide +kernel
theorem dX9_morning_74 : decode cX9_morning 74 = .ok (.ldc2_w 177, 3) := by decide +kernel
theorem dX9_morning_77 : decode cX9_morning 77 = .ok (.lrem, 1) := by decide +kernel
theorem dX9_morning_78 : decode cX9_morning 78 = .ok (.l2i, 1) := by decide +kernel
theorem dX9_morning_79 : decode cX9_morning 79 = .ok (.iconst 2, 1) := by decide +kernel
theorem dX9_morning_80 : decode cX9_morning 80 = .ok (.idiv, 1) := by decide +kernel
theorem dX9_morning_81 : decode cX9_morning 81 = .ok (.invokevirtual 179, 3) := by decide +kernel
theorem dX9_morning_84 : decode cX9_morning 84 = .ok (.iadd, 1) := by decide +kernel
theorem dX9_morning_85 : decode cX9_morning 85 = .ok (.istore 4, 2) := by decide +kernel
theorem dX9_morning_87 : decode cX9_morning 87 = .ok (.iinc 5 1, 3) := by decide +kernel
theorem dX9_morning_90 : decode cX9_morning 90 = .ok (.goto (-48), 3) := by decide +kernel
theorem dX9_morning_93 : decode cX9_morning 93 = .ok (.iconst 0, 1) := by decide +kernel
theorem dX9_morning_94 : decode cX9_morning 94 = .ok (.istore 5, 2) := by decide +kernel
theorem dX9_morning_96 : decode cX9_morning 96 = .ok (.iconst 0, 1) := by decide +kernel
theorem dX9_morning_97 : decode cX9_morning 97 = .ok (.istore 6, 2) := by decide +kernel
theorem dX9_morning_99 : decode cX9_morning 99 = .ok (.iload 6, 2) := by decide +kernel
theorem dX9_morning_101 : decode cX9_morning 101 = .ok (.aload_n 0, 1) := by decide +kernel
theorem dX9_morning_102 : decode cX9_morning 102 = .ok (.getfield 13, 3) := by decide +kernel
theorem dX9_morning_105 : decode cX9_morning 105 = .ok (.iconst 0, 1) := by decide +kernel
theorem dX9_morning_106 : decode cX9_morning 106 = .ok (.iaload, 1) := by decide +kernel
theorem dX9_morning_107 : decode cX9_morning 107 = .ok (.if_icmp .ge 33, 3) := by decide +kernel
theorem dX9_morning_110 : decode cX9_morning 110 = .ok (.iload 5, 2) := by decide +kernel
theorem dX9_morning_112 : decode cX9_morning 112 = .ok (.aload_n 0, 1) := by decide +kernel
theorem dX9_morning_113 : decode cX9_morning 113 = .ok (.getfield 19, 3) := by decide +kernel
theorem dX9_morning_116 : decode cX9_morning 116 = .ok (.iload 6, 2) := by decide +kernel
theorem dX9_morning_118 : decode cX9_morning 118 = .ok (.iaload, 1) := by decide +kernel
theorem dX9_morning_119 : decode cX9_morning 119 = .ok (.iconst 3, 1) := by decide +kernel
theorem dX9_morning_120 : decode cX9_morning 120 = .ok (.if_icmp .ne 10, 3) := by decide +kernel
theorem dX9_morning_123 : decode cX9_morning 123 = .ok (.iconst 1, 1) := by decide +kernel
theorem dX9_morning_124 : decode cX9_morning 124 = .ok (.iload 6, 2) := by decide +kernel
theorem dX9_morning_126 : decode cX9_morning 126 = .ok (.ishl, 1) := by decide +kernel
theorem dX9_morning_127 : decode cX9_morning 127 = .ok (.goto 4, 3) := by decide +kernel
theorem dX9_morning_130 : decode cX9_morning 130 = .ok (.iconst 0, 1) := by decide +kernel
theorem dX9_morning_131 : decode cX9_morning 131 = .ok (.ior, 1) := by decide +kernel
theorem dX9_morning_132 : decode cX9_morning 132 = .ok (.istore 5, 2) := by decide +kernel
theorem dX9_morning_134 : decode cX9_morning 134 = .ok (.iinc 6 1, 3) := by decide +kernel
theorem dX9_morning_137 : decode cX9_morning 137 = .ok (.goto (-38), 3) := by decide +kernel
theorem dX9_morning_140 : decode cX9_morning 140 = .ok (.aload_n 0, 1) := by decide +kernel
theorem dX9_morning_141 : decode cX9_morning 141 = .ok (.invokevirtual 155, 3) := by decide +kernel
theorem dX9_morning_144 : decode cX9_morning 144 = .ok (.iload_n 3, 1) := by decide +kernel
theorem dX9_morning_145 : decode cX9_morning 145 = .ok (.ifCond .ne 8, 3) := by decide +kernel
theorem dX9_morning_148 : decode cX9_morning 148 = .ok (.iload 5, 2) := by decide +kernel
theorem dX9_morning_150 : decode cX9_morning 150 = .ok (.goto 5, 3) := by decide +kernel
theorem dX9_morning_153 : decode cX9_morning 153 = .ok (.iload 4, 2) := by decide +kernel
theorem dX9_morning_155 : decode cX9_morning 155 = .ok (.ireturn, 1) := by decide +kernel
theorem dX9_keep_0 : decode cX9_keep 0 = .ok (.aload_n 0, 1) := by decide +kernel
theorem dX9_keep_1 : decode cX9_keep 1 = .ok (.getfield 90, 3) := by decide +kernel
theorem dX9_keep_4 : decode cX9_keep 4 = .ok (.iconst 2, 1) := by decide +kernel
theorem dX9_keep_5 : decode cX9_keep 5 = .ok (.if_icmp .ne 6, 3) := by decide +kernel
theorem dX9_keep_8 : decode cX9_keep 8 = .ok (.bipush (-3), 2) := by decide +kernel
theorem dX9_keep_10 : decode cX9_keep 10 = .ok (.ireturn, 1) := by decide +kernel
theorem dX9_keep_11 : decode cX9_keep 11 = .ok (.iconst 0, 1) := by decide +kernel
theorem dX9_keep_12 : decode cX9_keep 12 = .ok (.istore_n 1, 1) := by decide +kernel
theorem dX9_keep_13 : decode cX9_keep 13 = .ok (.iload_n 1, 1) := by decide +kernel
theorem dX9_keep_14 : decode cX9_keep 14 = .ok (.bipush 29, 2) := by decide +kernel
theorem dX9_keep_16 : decode cX9_keep 16 = .ok (.if_icmp .ge 29, 3) := by decide +kernel
theorem dX9_keep_19 : decode cX9_keep 19 = .ok (.aload_n 0, 1) := by decide +kernel
theorem dX9_keep_20 : decode cX9_keep 20 = .ok (.getfield 25, 3) := by decide +kernel
theorem dX9_keep_23 : decode cX9_keep 23 = .ok (.bipush 29, 2) := by decide +kernel
theorem dX9_keep_25 : decode cX9_keep 25 = .ok (.aload_n 0, 1) := by decide +kernel
theorem dX9_keep_26 : decode cX9_keep 26 = .ok (.getfield 90, 3) := by decide +kernel
theorem dX9_keep_29 : decode cX9_keep 29 = .ok (.imul, 1) := by decide +kernel
theorem dX9_keep_30 : decode cX9_keep 30 = .ok (.iload_n 1, 1) := by decide +kernel
theorem dX9_keep_31 : decode cX9_keep 31 = .ok (.iadd, 1) := by decide +kernel
theorem dX9_keep_32 : decode cX9_keep 32 = .ok (.aload_n 0, 1) := by decide +kernel
theorem dX9_keep_33 : decode cX9_keep 33 = .ok (.getfield 19, 3) := by decide +kernel
theorem dX9_keep_36 : decode cX9_keep 36 = .ok (.iload_n 1, 1) := by decide +kernel
theorem dX9_keep_37 : decode cX9_keep 37 = .ok (.iaload, 1) := by decide +kernel
theorem dX9_keep_38 : decode cX9_keep 38 = .ok (.iastore, 1) := by decide +kernel
theorem dX9_keep_39 : decode cX9_keep 39 = .ok (.iinc 1 1, 3) := by decide +kernel
theorem dX9_keep_42 : decode cX9_keep 42 = .ok (.goto (-29), 3) := by decide +kernel
theorem dX9_keep_45 : decode cX9_keep 45 = .ok (.aload_n 0, 1) := by decide +kernel
theorem dX9_keep_46 : decode cX9_keep 46 = .ok (.dup, 1) := by decide +kernel
theorem dX9_keep_47 : decode cX9_keep 47 = .ok (.getfield 90, 3) := by decide +kernel
theorem dX9_keep_50 : decode cX9_keep 50 = .ok (.iconst 1, 1) := by decide +kernel
theorem dX9_keep_51 : decode cX9_keep 51 = .ok (.iadd, 1) := by decide +kernel
theorem dX9_keep_52 : decode cX9_keep 52 = .ok (.putfield 90, 3) := by decide +kernel
theorem dX9_keep_55 : decode cX9_keep 55 = .ok (.aload_n 0, 1) := by decide +kernel
theorem dX9_keep_56 : decode cX9_keep 56 = .ok (.getfield 90, 3) := by decide +kernel
theorem dX9_keep_59 : decode cX9_keep 59 = .ok (.ireturn, 1) := by decide +kernel
theorem dX9_back_0 : decode cX9_back 0 = .ok (.aload_n 0, 1) := by decide +kernel
theorem dX9_back_1 : decode cX9_back 1 = .ok (.getfield 90, 3) := by decide +kernel
theorem dX9_back_4 : decode cX9_back 4 = .ok (.ifCond .ne 6, 3) := by decide +kernel
theorem dX9_back_7 : decode cX9_back 7 = .ok (.bipush (-2), 2) := by decide +kernel
theorem dX9_back_9 : decode cX9_back 9 = .ok (.ireturn, 1) := by decide +kernel
theorem dX9_back_10 : decode cX9_back 10 = .ok (.aload_n 0, 1) := by decide +kernel
theorem dX9_back_11 : decode cX9_back 11 = .ok (.dup, 1) := by decide +kernel
theorem dX9_back_12 : decode cX9_back 12 = .ok (.getfield 90, 3) := by decide +kernel
theorem dX9_back_15 : decode cX9_back 15 = .ok (.iconst 1, 1) := by decide +kernel
theorem dX9_back_16 : decode cX9_back 16 = .ok (.isub, 1) := by decide +kernel
theorem dX9_back_17 : decode cX9_back 17 = .ok (.putfield 90, 3) := by decide +kernel
theorem dX9_back_20 : decode cX9_back 20 = .ok (.iconst 0, 1) := by decide +kernel
theorem dX9_back_21 : decode cX9_back 21 = .ok (.istore_n 1, 1) := by decide +kernel
theorem dX9_back_22 : decode cX9_back 22 = .ok (.iload_n 1, 1) := by decide +kernel
theorem dX9_back_23 : decode cX9_back 23 = .ok (.bipush 29, 2) := by decide +kernel
theorem dX9_back_25 : decode cX9_back 25 = .ok (.if_icmp .ge 29, 3) := by decide +kernel
theorem dX9_back_28 : decode cX9_back 28 = .ok (.aload_n 0, 1) := by decide +kernel
theorem dX9_back_29 : decode cX9_back 29 = .ok (.getfield 19, 3) := by decide +kernel
theorem dX9_back_32 : decode cX9_back 32 = .ok (.iload_n 1, 1) := by decide +kernel
theorem dX9_back_33 : decode cX9_back 33 = .ok (.aload_n 0, 1) := by decide +kernel
theorem dX9_back_34 : decode cX9_back 34 = .ok (.getfield 25, 3) := by decide +kernel
theorem dX9_back_37 : decode cX9_back 37 = .ok (.bipush 29, 2) := by decide +kernel
theorem dX9_back_39 : decode cX9_back 39 = .ok (.aload_n 0, 1) := by decide +kernel
theorem dX9_back_40 : decode cX9_back 40 = .ok (.getfield 90, 3) := by decide +kernel
theorem dX9_back_43 : decode cX9_back 43 = .ok (.imul, 1) := by decide +kernel
theorem dX9_back_44 : decode cX9_back 44 = .ok (.iload_n 1, 1) := by decide +kernel
theorem dX9_back_45 : decode cX9_back 45 = .ok (.iadd, 1) := by decide +kernel
theorem dX9_back_46 : decode cX9_back 46 = .ok (.iaload, 1) := by decide +kernel
theorem dX9_back_47 : decode cX9_back 47 = .ok (.iastore, 1) := by decide +kernel
theorem dX9_back_48 : decode cX9_back 48 = .ok (.iinc 1 1, 3) := by decide +kernel
theorem dX9_back_51 : decode cX9_back 51 = .ok (.goto (-29), 3) := by decide +kernel
theorem dX9_back_54 : decode cX9_back 54 = .ok (.aload_n 0, 1) := by decide +kernel
theorem dX9_back_55 : decode cX9_back 55 = .ok (.iconst 0, 1) := by decide +kernel
theorem dX9_back_56 : decode cX9_back 56 = .ok (.putfield 87, 3) := by decide +kernel
theorem dX9_back_59 : decode cX9_back 59 = .ok (.aload_n 0, 1) := by decide +kernel
theorem dX9_back_60 : decode cX9_back 60 = .ok (.getfield 90, 3) := by decide +kernel
theorem dX9_back_63 : decode cX9_back 63 = .ok (.ireturn, 1) := by decide +kernel
theorem dX9_count_0 : decode cX9_count 0 = .ok (.iconst 0, 1) := by decide +kernel
theorem dX9_count_1 : decode cX9_count 1 = .ok (.istore_n 2, 1) := by decide +kernel
theorem dX9_count_2 : decode cX9_count 2 = .ok (.iconst 0, 1) := by decide +kernel
theorem dX9_count_3 : decode cX9_count 3 = .ok (.istore_n 3, 1) := by decide +kernel
theorem dX9_count_4 : decode cX9_count 4 = .ok (.iload_n 3, 1) := by decide +kernel
theorem dX9_count_5 : decode cX9_count 5 = .ok (.aload_n 0, 1) := by decide +kernel
theorem dX9_count_6 : decode cX9_count 6 = .ok (.getfield 13, 3) := by decide +kernel
theorem dX9_count_9 : decode cX9_count 9 = .ok (.iconst 0, 1) := by decide +kernel
theorem dX9_count_10 : decode cX9_count 10 = .ok (.iaload, 1) := by decide +kernel
theorem dX9_count_11 : decode cX9_count 11 = .ok (.if_icmp .ge 21, 3) := by decide +kernel
theorem dX9_count_14 : decode cX9_count 14 = .ok (.iload_n 2, 1) := by decide +kernel
theorem dX9_count_15 : decode cX9_count 15 = .ok (.aload_n 0, 1) := by decide +kernel
theorem dX9_count_16 : decode cX9_count 16 = .ok (.getfield 19, 3) := by decide +kernel
theorem dX9_count_19 : decode cX9_count 19 = .ok (.bipush 12, 2) := by decide +kernel
theorem dX9_count_21 : decode cX9_count 21 = .ok (.iload_n 3, 1) := by decide +kernel
theorem dX9_count_22 : decode cX9_count 22 = .ok (.iadd, 1) := by decide +kernel
theorem dX9_count_23 : decode cX9_count 23 = .ok (.iaload, 1) := by decide +kernel
theorem dX9_count_24 : decode cX9_count 24 = .ok (.iadd, 1) := by decide +kernel
theorem dX9_count_25 : decode cX9_count 25 = .ok (.istore_n 2, 1) := by decide +kernel
theorem dX9_count_26 : decode cX9_count 26 = .ok (.iinc 3 1, 3) := by decide +kernel
theorem dX9_count_29 : decode cX9_count 29 = .ok (.goto (-25), 3) := by decide +kernel
theorem dX9_count_32 : decode cX9_count 32 = .ok (.iload_n 1, 1) := by decide +kernel
theorem dX9_count_33 : decode cX9_count 33 = .ok (.tableswitch 161 0 13 #[71, 78, 85, 93, 99, 105, 111, 117, 131, 139, 141, 146, 151, 156], 71) := by decide +kernel
theorem dX9_count_104 : decode cX9_count 104 = .ok (.aload_n 0, 1) := by decide +kernel
theorem dX9_count_105 : decode cX9_count 105 = .ok (.getfield 13, 3) := by decide +kernel
theorem dX9_count_108 : decode cX9_count 108 = .ok (.iconst 0, 1) := by decide +kernel
theorem dX9_count_109 : decode cX9_count 109 = .ok (.iaload, 1) := by decide +kernel
theorem dX9_count_110 : decode cX9_count 110 = .ok (.ireturn, 1) := by decide +kernel
theorem dX9_count_111 : decode cX9_count 111 = .ok (.aload_n 0, 1) := by decide +kernel
theorem dX9_count_112 : decode cX9_count 112 = .ok (.getfield 13, 3) := by decide +kernel
theorem dX9_count_115 : decode cX9_count 115 = .ok (.iconst 1, 1) := by decide +kernel
theorem dX9_count_116 : decode cX9_count 116 = .ok (.iaload, 1) := by decide +kernel
theorem dX9_count_117 : decode cX9_count 117 = .ok (.ireturn, 1) := by decide +kernel
theorem dX9_count_118 : decode cX9_count 118 = .ok (.aload_n 0, 1) := by decide +kernel
theorem dX9_count_119 : decode cX9_count 119 = .ok (.getfield 19, 3) := by decide +kernel
theorem dX9_count_122 : decode cX9_count 122 = .ok (.bipush 28, 2) := by decide +kernel
theorem dX9_count_124 : decode cX9_count 124 = .ok (.iaload, 1) := by decide +kernel
theorem dX9_count_125 : decode cX9_count 125 = .ok (.ireturn, 1) := by decide +kernel
theorem dX9_count_126 : decode cX9_count 126 = .ok (.aload_n 0, 1) := by decide +kernel
theorem dX9_count_127 : decode cX9_count 127 = .ok (.iconst 0, 1) := by decide +kernel
theorem dX9_count_128 : decode cX9_count 128 = .ok (.invokevirtual 131, 3) := by decide +kernel
theorem dX9_count_131 : decode cX9_count 131 = .ok (.ireturn, 1) := by decide +kernel
theorem dX9_count_132 : decode cX9_count 132 = .ok (.aload_n 0, 1) := by decide +kernel
theorem dX9_count_133 : decode cX9_count 133 = .ok (.iconst 1, 1) := by decide +kernel
theorem dX9_count_134 : decode cX9_count 134 = .ok (.invokevirtual 131, 3) := by decide +kernel
theorem dX9_count_137 : decode cX9_count 137 = .ok (.ireturn, 1) := by decide +kernel
theorem dX9_count_138 : decode cX9_count 138 = .ok (.aload_n 0, 1) := by decide +kernel
theorem dX9_count_139 : decode cX9_count 139 = .ok (.iconst 2, 1) := by decide +kernel
theorem dX9_count_140 : decode cX9_count 140 = .ok (.invokevirtual 131, 3) := by decide +kernel
theorem dX9_count_143 : decode cX9_count 143 = .ok (.ireturn, 1) := by decide +kernel
theorem dX9_count_144 : decode cX9_count 144 = .ok (.aload_n 0, 1) := by decide +kernel
theorem dX9_count_145 : decode cX9_count 145 = .ok (.iconst 3, 1) := by decide +kernel
theorem dX9_count_146 : decode cX9_count 146 = .ok (.invokevirtual 131, 3) := by decide +kernel
theorem dX9_count_149 : decode cX9_count 149 = .ok (.ireturn, 1) := by decide +kernel
theorem dX9_count_150 : decode cX9_count 150 = .ok (.aload_n 0, 1) := by decide +kernel
theorem dX9_count_151 : decode cX9_count 151 = .ok (.bipush 18, 2) := by decide +kernel
theorem dX9_count_153 : decode cX9_count 153 = .ok (.aload_n 0, 1) := by decide +kernel
theorem dX9_count_154 : decode cX9_count 154 = .ok (.getfield 13, 3) := by decide +kernel
theorem dX9_count_157 : decode cX9_count 157 = .ok (.iconst 1, 1) := by decide +kernel
theorem dX9_count_158 : decode cX9_count 158 = .ok (.iaload, 1) := by decide +kernel
theorem dX9_count_159 : decode cX9_count 159 = .ok (.iconst 0, 1) := by decide +kernel
theorem dX9_count_160 : decode cX9_count 160 = .ok (.invokevirtual 125, 3) := by decide +kernel
theorem dX9_count_163 : decode cX9_count 163 = .ok (.ireturn, 1) := by decide +kernel
theorem dX9_count_164 : decode cX9_count 164 = .ok (.aload_n 0, 1) := by decide +kernel
theorem dX9_count_165 : decode cX9_count 165 = .ok (.getfield 19, 3) := by decide +kernel
theorem dX9_count_168 : decode cX9_count 168 = .ok (.bipush 27, 2) := by decide +kernel
theorem dX9_count_170 : decode cX9_count 170 = .ok (.iaload, 1) := by decide +kernel
theorem dX9_count_171 : decode cX9_count 171 = .ok (.ireturn, 1) := by decide +kernel
theorem dX9_count_172 : decode cX9_count 172 = .ok (.iload_n 2, 1) := by decide +kernel
theorem dX9_count_173 : decode cX9_count 173 = .ok (.ireturn, 1) := by decide +kernel
theorem dX9_count_174 : decode cX9_count 174 = .ok (.aload_n 0, 1) := by decide +kernel
theorem dX9_count_175 : decode cX9_count 175 = .ok (.getfield 93, 3) := by decide +kernel
theorem dX9_count_178 : decode cX9_count 178 = .ok (.ireturn, 1) := by decide +kernel
theorem dX9_count_179 : decode cX9_count 179 = .ok (.aload_n 0, 1) := by decide +kernel
theorem dX9_count_180 : decode cX9_count 180 = .ok (.getfield 87, 3) := by decide +kernel
theorem dX9_count_183 : decode cX9_count 183 = .ok (.ireturn, 1) := by decide +kernel
theorem dX9_count_184 : decode cX9_count 184 = .ok (.aload_n 0, 1) := by decide +kernel
theorem dX9_count_185 : decode cX9_count 185 = .ok (.getfield 90, 3) := by decide +kernel
theorem dX9_count_188 : decode cX9_count 188 = .ok (.ireturn, 1) := by decide +kernel
theorem dX9_count_189 : decode cX9_count 189 = .ok (.aload_n 0, 1) := by decide +kernel
theorem dX9_count_190 : decode cX9_count 190 = .ok (.getfield 54, 3) := by decide +kernel
theorem dX9_count_193 : decode cX9_count 193 = .ok (.ireturn, 1) := by decide +kernel
theorem dX9_count_194 : decode cX9_count 194 = .ok (.iconst (-1), 1) := by decide +kernel
theorem dX9_count_195 : decode cX9_count 195 = .ok (.ireturn, 1) := by decide +kernel
end
section
theorem dJ9_max_7cf53_0 : decode cJ9_max_7cf53 0 = .ok (.iload_n 0, 1) := by decide +kernel
theorem dJ9_max_7cf53_1 : decode cJ9_max_7cf53 1 = .ok (.iload_n 1, 1) := by decide +kernel
theorem dJ9_max_7cf53_2 : decode cJ9_max_7cf53 2 = .ok (.if_icmp .lt 7, 3) := by decide +kernel
theorem dJ9_max_7cf53_5 : decode cJ9_max_7cf53 5 = .ok (.iload_n 0, 1) := by decide +kernel
theorem dJ9_max_7cf53_6 : decode cJ9_max_7cf53 6 = .ok (.goto 4, 3) := by decide +kernel
theorem dJ9_max_7cf53_9 : decode cJ9_max_7cf53 9 = .ok (.iload_n 1, 1) := by decide +kernel
theorem dJ9_max_7cf53_10 : decode cJ9_max_7cf53 10 = .ok (.ireturn, 1) := by decide +kernel
theorem dJ9_min_7cf53_0 : decode cJ9_min_7cf53 0 = .ok (.iload_n 0, 1) := by decide +kernel
theorem dJ9_min_7cf53_1 : decode cJ9_min_7cf53 1 = .ok (.iload_n 1, 1) := by decide +kernel
theorem dJ9_min_7cf53_2 : decode cJ9_min_7cf53 2 = .ok (.if_icmp .gt 7, 3) := by decide +kernel
theorem dJ9_min_7cf53_5 : decode cJ9_min_7cf53 5 = .ok (.iload_n 0, 1) := by decide +kernel
theorem dJ9_min_7cf53_6 : decode cJ9_min_7cf53 6 = .ok (.goto 4, 3) := by decide +kernel
theorem dJ9_min_7cf53_9 : decode cJ9_min_7cf53 9 = .ok (.iload_n 1, 1) := by decide +kernel
theorem dJ9_min_7cf53_10 : decode cJ9_min_7cf53 10 = .ok (.ireturn, 1) := by decide +kernel
theorem dJ0_length_8abf5_0 : decode cJ0_length_8abf5 0 = .ok (.aload_n 0, 1) := by decide +kernel
theorem dJ0_length_8abf5_1 : decode cJ0_length_8abf5 1 = .ok (.getfield 9, 3) := by decide +kernel
theorem dJ0_length_8abf5_4 : decode cJ0_length_8abf5 4 = .ok (.arraylength, 1) := by decide +kernel
theorem dJ0_length_8abf5_5 : decode cJ0_length_8abf5 5 = .ok (.aload_n 0, 1) := by decide +kernel
theorem dJ0_length_8abf5_6 : decode cJ0_length_8abf5 6 = .ok (.invokevirtual 335, 3) := by decide +kernel
theorem dJ0_length_8abf5_9 : decode cJ0_length_8abf5 9 = .ok (.ishr, 1) := by decide +kernel
theorem dJ0_length_8abf5_10 : decode cJ0_length_8abf5 10 = .ok (.ireturn, 1) := by decide +kernel
theorem dJ0_charAt_5068e_0 : decode cJ0_charAt_5068e 0 = .ok (.aload_n 0, 1) := by decide +kernel
theorem dJ0_charAt_5068e_1 : decode cJ0_charAt_5068e 1 = .ok (.invokevirtual 492, 3) := by decide +kernel
theorem dJ0_charAt_5068e_4 : decode cJ0_charAt_5068e 4 = .ok (.ifCond .eq 12, 3) := by decide +kernel
theorem dJ0_charAt_5068e_7 : decode cJ0_charAt_5068e 7 = .ok (.aload_n 0, 1) := by decide +kernel
theorem dJ0_charAt_5068e_8 : decode cJ0_charAt_5068e 8 = .ok (.getfield 9, 3) := by decide +kernel
theorem dJ0_charAt_5068e_11 : decode cJ0_charAt_5068e 11 = .ok (.iload_n 1, 1) := by decide +kernel
theorem dJ0_charAt_5068e_12 : decode cJ0_charAt_5068e 12 = .ok (.invokestatic 495, 3) := by decide +kernel
theorem dJ0_charAt_5068e_15 : decode cJ0_charAt_5068e 15 = .ok (.ireturn, 1) := by decide +kernel
theorem dJ0_charAt_5068e_16 : decode cJ0_charAt_5068e 16 = .ok (.aload_n 0, 1) := by decide +kernel
theorem dJ0_charAt_5068e_17 : decode cJ0_charAt_5068e 17 = .ok (.getfield 9, 3) := by decide +kernel
theorem dJ0_charAt_5068e_20 : decode cJ0_charAt_5068e 20 = .ok (.iload_n 1, 1) := by decide +kernel
theorem dJ0_charAt_5068e_21 : decode cJ0_charAt_5068e 21 = .ok (.invokestatic 498, 3) := by decide +kernel
theorem dJ0_charAt_5068e_24 : decode cJ0_charAt_5068e 24 = .ok (.ireturn, 1) := by decide +kernel
theorem dJ0_coder_7d493_0 : decode cJ0_coder_7d493 0 = .ok (.getstatic 38, 3) := by decide +kernel
theorem dJ0_coder_7d493_3 : decode cJ0_coder_7d493 3 = .ok (.ifCond .eq 10, 3) := by decide +kernel
theorem dJ0_coder_7d493_6 : decode cJ0_coder_7d493 6 = .ok (.aload_n 0, 1) := by decide +kernel
theorem dJ0_coder_7d493_7 : decode cJ0_coder_7d493 7 = .ok (.getfield 15, 3) := by decide +kernel
theorem dJ0_coder_7d493_10 : decode cJ0_coder_7d493 10 = .ok (.goto 4, 3) := by decide +kernel
theorem dJ0_coder_7d493_13 : decode cJ0_coder_7d493 13 = .ok (.iconst 1, 1) := by decide +kernel
theorem dJ0_coder_7d493_14 : decode cJ0_coder_7d493 14 = .ok (.ireturn, 1) := by decide +kernel
theorem dJ0_isLatin1_aae02_0 : decode cJ0_isLatin1_aae02 0 = .ok (.getstatic 38, 3) := by decide +kernel
theorem dJ0_isLatin1_aae02_3 : decode cJ0_isLatin1_aae02 3 = .ok (.ifCond .eq 14, 3) := by decide +kernel
theorem dJ0_isLatin1_aae02_6 : decode cJ0_isLatin1_aae02 6 = .ok (.aload_n 0, 1) := by decide +kernel
theorem dJ0_isLatin1_aae02_7 : decode cJ0_isLatin1_aae02 7 = .ok (.getfield 15, 3) := by decide +kernel
theorem dJ0_isLatin1_aae02_10 : decode cJ0_isLatin1_aae02 10 = .ok (.ifCond .ne 7, 3) := by decide +kernel
theorem dJ0_isLatin1_aae02_13 : decode cJ0_isLatin1_aae02 13 = .ok (.iconst 1, 1) := by decide +kernel
theorem dJ0_isLatin1_aae02_14 : decode cJ0_isLatin1_aae02 14 = .ok (.goto 4, 3) := by decide +kernel
theorem dJ0_isLatin1_aae02_17 : decode cJ0_isLatin1_aae02 17 = .ok (.iconst 0, 1) := by decide +kernel
theorem dJ0_isLatin1_aae02_18 : decode cJ0_isLatin1_aae02 18 = .ok (.ireturn, 1) := by decide +kernel
theorem dJ0_checkIndex_df160_0 : decode cJ0_checkIndex_df160 0 = .ok (.iload_n 0, 1) := by decide +kernel
theorem dJ0_checkIndex_df160_1 : decode cJ0_checkIndex_df160 1 = .ok (.iload_n 1, 1) := by decide +kernel
theorem dJ0_checkIndex_df160_2 : decode cJ0_checkIndex_df160 2 = .ok (.getstatic 1053, 3) := by decide +kernel
theorem dJ0_checkIndex_df160_5 : decode cJ0_checkIndex_df160 5 = .ok (.invokestatic 1059, 3) := by decide +kernel
theorem dJ0_checkIndex_df160_8 : decode cJ0_checkIndex_df160 8 = .ok (.pop, 1) := by decide +kernel
theorem dJ0_checkIndex_df160_9 : decode cJ0_checkIndex_df160 9 = .ok (.return_, 1) := by decide +kernel
theorem dJ1_charAt_3b067_0 : decode cJ1_charAt_3b067 0 = .ok (.iload_n 1, 1) := by decide +kernel
theorem dJ1_charAt_3b067_1 : decode cJ1_charAt_3b067 1 = .ok (.aload_n 0, 1) := by decide +kernel
theorem dJ1_charAt_3b067_2 : decode cJ1_charAt_3b067 2 = .ok (.arraylength, 1) := by decide +kernel
theorem dJ1_charAt_3b067_3 : decode cJ1_charAt_3b067 3 = .ok (.invokestatic 9, 3) := by decide +kernel
theorem dJ1_charAt_3b067_6 : decode cJ1_charAt_3b067 6 = .ok (.aload_n 0, 1) := by decide +kernel
theorem dJ1_charAt_3b067_7 : decode cJ1_charAt_3b067 7 = .ok (.iload_n 1, 1) := by decide +kernel
theorem dJ1_charAt_3b067_8 : decode cJ1_charAt_3b067 8 = .ok (.baload, 1) := by decide +kernel
theorem dJ1_charAt_3b067_9 : decode cJ1_charAt_3b067 9 = .ok (.sipush 255, 3) := by decide +kernel
theorem dJ1_charAt_3b067_12 : decode cJ1_charAt_3b067 12 = .ok (.iand, 1) := by decide +kernel
theorem dJ1_charAt_3b067_13 : decode cJ1_charAt_3b067 13 = .ok (.i2c, 1) := by decide +kernel
theorem dJ1_charAt_3b067_14 : decode cJ1_charAt_3b067 14 = .ok (.ireturn, 1) := by decide +kernel
theorem dJ2_getChar_3b067_0 : decode cJ2_getChar_3b067 0 = .ok (.getstatic 44, 3) := by decide +kernel
theorem dJ2_getChar_3b067_3 : decode cJ2_getChar_3b067 3 = .ok (.ifCond .ne 25, 3) := by decide +kernel
theorem dJ2_getChar_3b067_6 : decode cJ2_getChar_3b067 6 = .ok (.iload_n 1, 1) := by decide +kernel
theorem dJ2_getChar_3b067_7 : decode cJ2_getChar_3b067 7 = .ok (.ifCond .lt 11, 3) := by decide +kernel
theorem dJ2_getChar_3b067_10 : decode cJ2_getChar_3b067 10 = .ok (.iload_n 1, 1) := by decide +kernel
theorem dJ2_getChar_3b067_11 : decode cJ2_getChar_3b067 11 = .ok (.aload_n 0, 1) := by decide +kernel
theorem dJ2_getChar_3b067_12 : decode cJ2_getChar_3b067 12 = .ok (.invokestatic 48, 3) := by decide +kernel
theorem dJ2_getChar_3b067_15 : decode cJ2_getChar_3b067 15 = .ok (.if_icmp .lt 13, 3) := by decide +kernel
theorem dJ2_getChar_3b067_18 : decode cJ2_getChar_3b067 18 = .ok (.new 52, 3) := by decide +kernel
theorem dJ2_getChar_3b067_21 : decode cJ2_getChar_3b067 21 = .ok (.dup, 1) := by decide +kernel
theorem dJ2_getChar_3b067_22 : decode cJ2_getChar_3b067 22 = .ok (.ldc 54, 2) := by decide +kernel
theorem dJ2_getChar_3b067_24 : decode cJ2_getChar_3b067 24 = .ok (.invokespecial 56, 3) := by decide +kernel
theorem dJ2_getChar_3b067_27 : decode cJ2_getChar_3b067 27 = .ok (.athrow, 1) := by decide +kernel
theorem dJ2_getChar_3b067_28 : decode cJ2_getChar_3b067 28 = .ok (.iload_n 1, 1) := by decide +kernel
theorem dJ2_getChar_3b067_29 : decode cJ2_getChar_3b067 29 = .ok (.iconst 1, 1) := by decide +kernel
theorem dJ2_getChar_3b067_30 : decode cJ2_getChar_3b067 30 = .ok (.ishl, 1) := by decide +kernel
theorem dJ2_getChar_3b067_31 : decode cJ2_getChar_3b067 31 = .ok (.istore_n 1, 1) := by decide +kernel
theorem dJ2_getChar_3b067_32 : decode cJ2_getChar_3b067 32 = .ok (.aload_n 0, 1) := by decide +kernel
theorem dJ2_getChar_3b067_33 : decode cJ2_getChar_3b067 33 = .ok (.iload_n 1, 1) := by decide +kernel
theorem dJ2_getChar_3b067_34 : decode cJ2_getChar_3b067 34 = .ok (.iinc 1 1, 3) := by decide +kernel
theorem dJ2_getChar_3b067_37 : decode cJ2_getChar_3b067 37 = .ok (.baload, 1) := by decide +kernel
theorem dJ2_getChar_3b067_38 : decode cJ2_getChar_3b067 38 = .ok (.sipush 255, 3) := by decide +kernel
theorem dJ2_getChar_3b067_41 : decode cJ2_getChar_3b067 41 = .ok (.iand, 1) := by decide +kernel
theorem dJ2_getChar_3b067_42 : decode cJ2_getChar_3b067 42 = .ok (.getstatic 59, 3) := by decide +kernel
theorem dJ2_getChar_3b067_45 : decode cJ2_getChar_3b067 45 = .ok (.ishl, 1) := by decide +kernel
theorem dJ2_getChar_3b067_46 : decode cJ2_getChar_3b067 46 = .ok (.aload_n 0, 1) := by decide +kernel
theorem dJ2_getChar_3b067_47 : decode cJ2_getChar_3b067 47 = .ok (.iload_n 1, 1) := by decide +kernel
theorem dJ2_getChar_3b067_48 : decode cJ2_getChar_3b067 48 = .ok (.baload, 1) := by decide +kernel
theorem dJ2_getChar_3b067_49 : decode cJ2_getChar_3b067 49 = .ok (.sipush 255, 3) := by decide +kernel
theorem dJ2_getChar_3b067_52 : decode cJ2_getChar_3b067 52 = .ok (.iand, 1) := by decide +kernel
theorem dJ2_getChar_3b067_53 : decode cJ2_getChar_3b067 53 = .ok (.getstatic 63, 3) := by decide +kernel
theorem dJ2_getChar_3b067_56 : decode cJ2_getChar_3b067 56 = .ok (.ishl, 1) := by decide +kernel
theorem dJ2_getChar_3b067_57 : decode cJ2_getChar_3b067 57 = .ok (.ior, 1) := by decide +kernel
theorem dJ2_getChar_3b067_58 : decode cJ2_getChar_3b067 58 = .ok (.i2c, 1) := by decide +kernel
theorem dJ2_getChar_3b067_59 : decode cJ2_getChar_3b067 59 = .ok (.ireturn, 1) := by decide +kernel
theorem dJ2_length_9d52b_0 : decode cJ2_length_9d52b 0 = .ok (.aload_n 0, 1) := by decide +kernel
theorem dJ2_length_9d52b_1 : decode cJ2_length_9d52b 1 = .ok (.arraylength, 1) := by decide +kernel
theorem dJ2_length_9d52b_2 : decode cJ2_length_9d52b 2 = .ok (.iconst 1, 1) := by decide +kernel
theorem dJ2_length_9d52b_3 : decode cJ2_length_9d52b 3 = .ok (.ishr, 1) := by decide +kernel
theorem dJ2_length_9d52b_4 : decode cJ2_length_9d52b 4 = .ok (.ireturn, 1) := by decide +kernel
theorem dJ2_charAt_3b067_0 : decode cJ2_charAt_3b067 0 = .ok (.iload_n 1, 1) := by decide +kernel
theorem dJ2_charAt_3b067_1 : decode cJ2_charAt_3b067 1 = .ok (.aload_n 0, 1) := by decide +kernel
theorem dJ2_charAt_3b067_2 : decode cJ2_charAt_3b067 2 = .ok (.invokestatic 67, 3) := by decide +kernel
theorem dJ2_charAt_3b067_5 : decode cJ2_charAt_3b067 5 = .ok (.aload_n 0, 1) := by decide +kernel
theorem dJ2_charAt_3b067_6 : decode cJ2_charAt_3b067 6 = .ok (.iload_n 1, 1) := by decide +kernel
theorem dJ2_charAt_3b067_7 : decode cJ2_charAt_3b067 7 = .ok (.invokestatic 71, 3) := by decide +kernel
theorem dJ2_charAt_3b067_10 : decode cJ2_charAt_3b067 10 = .ok (.ireturn, 1) := by decide +kernel
theorem dJ2_checkIndex_2214a_0 : decode cJ2_checkIndex_2214a 0 = .ok (.iload_n 0, 1) := by decide +kernel
theorem dJ2_checkIndex_2214a_1 : decode cJ2_checkIndex_2214a 1 = .ok (.aload_n 1, 1) := by decide +kernel
theorem dJ2_checkIndex_2214a_2 : decode cJ2_checkIndex_2214a 2 = .ok (.invokestatic 48, 3) := by decide +kernel
theorem dJ2_checkIndex_2214a_5 : decode cJ2_checkIndex_2214a 5 = .ok (.invokestatic 414, 3) := by decide +kernel
theorem dJ2_checkIndex_2214a_8 : decode cJ2_checkIndex_2214a 8 = .ok (.return_, 1) := by decide +kernel
theorem dJ3_checkIndex_8e157_0 : decode cJ3_checkIndex_8e157 0 = .ok (.iload_n 0, 1) := by decide +kernel
theorem dJ3_checkIndex_8e157_1 : decode cJ3_checkIndex_8e157 1 = .ok (.ifCond .lt 8, 3) := by decide +kernel
theorem dJ3_checkIndex_8e157_4 : decode cJ3_checkIndex_8e157 4 = .ok (.iload_n 0, 1) := by decide +kernel
theorem dJ3_checkIndex_8e157_5 : decode cJ3_checkIndex_8e157 5 = .ok (.iload_n 1, 1) := by decide +kernel
theorem dJ3_checkIndex_8e157_6 : decode cJ3_checkIndex_8e157 6 = .ok (.if_icmp .lt 10, 3) := by decide +kernel
theorem dJ3_checkIndex_8e157_9 : decode cJ3_checkIndex_8e157 9 = .ok (.aload_n 2, 1) := by decide +kernel
theorem dJ3_checkIndex_8e157_10 : decode cJ3_checkIndex_8e157 10 = .ok (.iload_n 0, 1) := by decide +kernel
theorem dJ3_checkIndex_8e157_11 : decode cJ3_checkIndex_8e157 11 = .ok (.iload_n 1, 1) := by decide +kernel
theorem dJ3_checkIndex_8e157_12 : decode cJ3_checkIndex_8e157 12 = .ok (.invokestatic 95, 3) := by decide +kernel
theorem dJ3_checkIndex_8e157_15 : decode cJ3_checkIndex_8e157 15 = .ok (.athrow, 1) := by decide +kernel
theorem dJ3_checkIndex_8e157_16 : decode cJ3_checkIndex_8e157 16 = .ok (.iload_n 0, 1) := by decide +kernel
theorem dJ3_checkIndex_8e157_17 : decode cJ3_checkIndex_8e157 17 = .ok (.ireturn, 1) := by decide +kernel
theorem dL_law_0 : decode cL_law 0 = .ok (.new 7, 3) := by decide +kernel
theorem dL_law_3 : decode cL_law 3 = .ok (.dup, 1) := by decide +kernel
theorem dL_law_4 : decode cL_law 4 = .ok (.invokespecial 9, 3) := by decide +kernel
theorem dL_law_7 : decode cL_law 7 = .ok (.astore_n 1, 1) := by decide +kernel
theorem dL_law_8 : decode cL_law 8 = .ok (.new 10, 3) := by decide +kernel
theorem dL_law_11 : decode cL_law 11 = .ok (.dup, 1) := by decide +kernel
theorem dL_law_12 : decode cL_law 12 = .ok (.invokespecial 12, 3) := by decide +kernel
theorem dL_law_15 : decode cL_law 15 = .ok (.astore_n 2, 1) := by decide +kernel
theorem dL_law_16 : decode cL_law 16 = .ok (.iconst 0, 1) := by decide +kernel
theorem dL_law_17 : decode cL_law 17 = .ok (.istore_n 3, 1) := by decide +kernel
theorem dL_law_18 : decode cL_law 18 = .ok (.iload_n 3, 1) := by decide +kernel
theorem dL_law_19 : decode cL_law 19 = .ok (.aload_n 0, 1) := by decide +kernel
theorem dL_law_20 : decode cL_law 20 = .ok (.arraylength, 1) := by decide +kernel
theorem dL_law_21 : decode cL_law 21 = .ok (.iconst 4, 1) := by decide +kernel
theorem dL_law_22 : decode cL_law 22 = .ok (.isub, 1) := by decide +kernel
theorem dL_law_23 : decode cL_law 23 = .ok (.if_icmp .gt 716, 3) := by decide +kernel
theorem dL_law_26 : decode cL_law 26 = .ok (.aload_n 0, 1) := by decide +kernel
theorem dL_law_27 : decode cL_law 27 = .ok (.iload_n 3, 1) := by decide +kernel
theorem dL_law_28 : decode cL_law 28 = .ok (.iaload, 1) := by decide +kernel
theorem dL_law_29 : decode cL_law 29 = .ok (.bipush 31, 2) := by decide +kernel
theorem dL_law_31 : decode cL_law 31 = .ok (.iand, 1) := by decide +kernel
theorem dL_law_32 : decode cL_law 32 = .ok (.tableswitch 701 0 24 #[116, 139, 152, 165, 178, 211, 244, 277, 300, 323, 346, 359, 382, 405, 418, 431, 454, 497, 510, 533, 566, 609, 652, 665, 678], 116) := by decide +kernel
theorem dL_law_148 : decode cL_law 148 = .ok (.aload_n 1, 1) := by decide +kernel
theorem dL_law_149 : decode cL_law 149 = .ok (.aload_n 0, 1) := by decide +kernel
theorem dL_law_150 : decode cL_law 150 = .ok (.iload_n 3, 1) := by decide +kernel
theorem dL_law_151 : decode cL_law 151 = .ok (.iconst 1, 1) := by decide +kernel
theorem dL_law_152 : decode cL_law 152 = .ok (.iadd, 1) := by decide +kernel
theorem dL_law_153 : decode cL_law 153 = .ok (.iaload, 1) := by decide +kernel
theorem dL_law_154 : decode cL_law 154 = .ok (.invokevirtual 13, 3) := by decide +kernel
theorem dL_law_157 : decode cL_law 157 = .ok (.aload_n 2, 1) := by decide +kernel
theorem dL_law_158 : decode cL_law 158 = .ok (.aload_n 0, 1) := by decide +kernel
theorem dL_law_159 : decode cL_law 159 = .ok (.iload_n 3, 1) := by decide +kernel
theorem dL_law_160 : decode cL_law 160 = .ok (.iconst 1, 1) := by decide +kernel
theorem dL_law_161 : decode cL_law 161 = .ok (.iadd, 1) := by decide +kernel
theorem dL_law_162 : decode cL_law 162 = .ok (.iaload, 1) := by decide +kernel
theorem dL_law_163 : decode cL_law 163 = .ok (.invokevirtual 17, 3) := by decide +kernel
theorem dL_law_166 : decode cL_law 166 = .ok (.if_icmp .eq 567, 3) := by decide +kernel
theorem dL_law_169 : decode cL_law 169 = .ok (.iconst 0, 1) := by decide +kernel
theorem dL_law_170 : decode cL_law 170 = .ok (.ireturn, 1) := by decide +kernel
theorem dL_law_171 : decode cL_law 171 = .ok (.aload_n 1, 1) := by decide +kernel
theorem dL_law_172 : decode cL_law 172 = .ok (.invokevirtual 18, 3) := by decide +kernel
theorem dL_law_175 : decode cL_law 175 = .ok (.aload_n 2, 1) := by decide +kernel
theorem dL_law_176 : decode cL_law 176 = .ok (.invokevirtual 22, 3) := by decide +kernel
theorem dL_law_179 : decode cL_law 179 = .ok (.if_icmp .eq 554, 3) := by decide +kernel
theorem dL_law_182 : decode cL_law 182 = .ok (.iconst 0, 1) := by decide +kernel
theorem dL_law_183 : decode cL_law 183 = .ok (.ireturn, 1) := by decide +kernel
theorem dL_law_184 : decode cL_law 184 = .ok (.aload_n 1, 1) := by decide +kernel
theorem dL_law_185 : decode cL_law 185 = .ok (.invokevirtual 23, 3) := by decide +kernel
theorem dL_law_188 : decode cL_law 188 = .ok (.aload_n 2, 1) := by decide +kernel
theorem dL_law_189 : decode cL_law 189 = .ok (.invokevirtual 26, 3) := by decide +kernel
theorem dL_law_192 : decode cL_law 192 = .ok (.if_icmp .eq 541, 3) := by decide +kernel
theorem dL_law_195 : decode cL_law 195 = .ok (.iconst 0, 1) := by decide +kernel
theorem dL_law_196 : decode cL_law 196 = .ok (.ireturn, 1) := by decide +kernel
theorem dL_law_197 : decode cL_law 197 = .ok (.aload_n 1, 1) := by decide +kernel
theorem dL_law_198 : decode cL_law 198 = .ok (.invokevirtual 27, 3) := by decide +kernel
theorem dL_law_201 : decode cL_law 201 = .ok (.aload_n 2, 1) := by decide +kernel
theorem dL_law_202 : decode cL_law 202 = .ok (.invokevirtual 30, 3) := by decide +kernel
theorem dL_law_205 : decode cL_law 205 = .ok (.if_icmp .eq 528, 3) := by decide +kernel
theorem dL_law_208 : decode cL_law 208 = .ok (.iconst 0, 1) := by decide +kernel
theorem dL_law_209 : decode cL_law 209 = .ok (.ireturn, 1) := by decide +kernel
theorem dL_law_210 : decode cL_law 210 = .ok (.aload_n 1, 1) := by decide +kernel
theorem dL_law_211 : decode cL_law 211 = .ok (.aload_n 0, 1) := by decide +kernel
theorem dL_law_212 : decode cL_law 212 = .ok (.iload_n 3, 1) := by decide +kernel
theorem dL_law_213 : decode cL_law 213 = .ok (.iconst 1, 1) := by decide +kernel
theorem dL_law_214 : decode cL_law 214 = .ok (.iadd, 1) := by decide +kernel
theorem dL_law_215 : decode cL_law 215 = .ok (.iaload, 1) := by decide +kernel
theorem dL_law_216 : decode cL_law 216 = .ok (.aload_n 0, 1) := by decide +kernel
theorem dL_law_217 : decode cL_law 217 = .ok (.iload_n 3, 1) := by decide +kernel
theorem dL_law_218 : decode cL_law 218 = .ok (.iconst 2, 1) := by decide +kernel
theorem dL_law_219 : decode cL_law 219 = .ok (.iadd, 1) := by decide +kernel
theorem dL_law_220 : decode cL_law 220 = .ok (.iaload, 1) := by decide +kernel
theorem dL_law_221 : decode cL_law 221 = .ok (.invokevirtual 31, 3) := by decide +kernel
theorem dL_law_224 : decode cL_law 224 = .ok (.aload_n 2, 1) := by decide +kernel
theorem dL_law_225 : decode cL_law 225 = .ok (.aload_n 0, 1) := by decide +kernel
theorem dL_law_226 : decode cL_law 226 = .ok (.iload_n 3, 1) := by decide +kernel
theorem dL_law_227 : decode cL_law 227 = .ok (.iconst 1, 1) := by decide +kernel
theorem dL_law_228 : decode cL_law 228 = .ok (.iadd, 1) := by decide +kernel
theorem dL_law_229 : decode cL_law 229 = .ok (.iaload, 1) := by decide +kernel
theorem dL_law_230 : decode cL_law 230 = .ok (.aload_n 0, 1) := by decide +kernel
theorem dL_law_231 : decode cL_law 231 = .ok (.iload_n 3, 1) := by decide +kernel
theorem dL_law_232 : decode cL_law 232 = .ok (.iconst 2, 1) := by decide +kernel
theorem dL_law_233 : decode cL_law 233 = .ok (.iadd, 1) := by decide +kernel
theorem dL_law_234 : decode cL_law 234 = .ok (.iaload, 1) := by decide +kernel
theorem dL_law_235 : decode cL_law 235 = .ok (.invokevirtual 35, 3) := by decide +kernel
theorem dL_law_238 : decode cL_law 238 = .ok (.if_icmp .eq 495, 3) := by decide +kernel
theorem dL_law_241 : decode cL_law 241 = .ok (.iconst 0, 1) := by decide +kernel
theorem dL_law_242 : decode cL_law 242 = .ok (.ireturn, 1) := by decide +kernel
theorem dL_law_243 : decode cL_law 243 = .ok (.aload_n 1, 1) := by decide +kernel
theorem dL_law_244 : decode cL_law 244 = .ok (.aload_n 0, 1) := by decide +kernel
theorem dL_law_245 : decode cL_law 245 = .ok (.iload_n 3, 1) := by decide +kernel
theorem dL_law_246 : decode cL_law 246 = .ok (.iconst 1, 1) := by decide +kernel
theorem dL_law_247 : decode cL_law 247 = .ok (.iadd, 1) := by decide +kernel
theorem dL_law_248 : decode cL_law 248 = .ok (.iaload, 1) := by decide +kernel
theorem dL_law_249 : decode cL_law 249 = .ok (.aload_n 0, 1) := by decide +kernel
theorem dL_law_250 : decode cL_law 250 = .ok (.iload_n 3, 1) := by decide +kernel
theorem dL_law_251 : decode cL_law 251 = .ok (.iconst 2, 1) := by decide +kernel
theorem dL_law_252 : decode cL_law 252 = .ok (.iadd, 1) := by decide +kernel
theorem dL_law_253 : decode cL_law 253 = .ok (.iaload, 1) := by decide +kernel
theorem dL_law_254 : decode cL_law 254 = .ok (.invokevirtual 36, 3) := by decide +kernel
theorem dL_law_257 : decode cL_law 257 = .ok (.aload_n 2, 1) := by decide +kernel
theorem dL_law_258 : decode cL_law 258 = .ok (.aload_n 0, 1) := by decide +kernel
theorem dL_law_259 : decode cL_law 259 = .ok (.iload_n 3, 1) := by decide +kernel
theorem dL_law_260 : decode cL_law 260 = .ok (.iconst 1, 1) := by decide +kernel
theorem dL_law_261 : decode cL_law 261 = .ok (.iadd, 1) := by decide +kernel
theorem dL_law_262 : decode cL_law 262 = .ok (.iaload, 1) := by decide +kernel
theorem dL_law_263 : decode cL_law 263 = .ok (.aload_n 0, 1) := by decide +kernel
theorem dL_law_264 : decode cL_law 264 = .ok (.iload_n 3, 1) := by decide +kernel
theorem dL_law_265 : decode cL_law 265 = .ok (.iconst 2, 1) := by decide +kernel
theorem dL_law_266 : decode cL_law 266 = .ok (.iadd, 1) := by decide +kernel
theorem dL_law_267 : decode cL_law 267 = .ok (.iaload, 1) := by decide +kernel
theorem dL_law_268 : decode cL_law 268 = .ok (.invokevirtual 39, 3) := by decide +kernel
theorem dL_law_271 : decode cL_law 271 = .ok (.if_icmp .eq 462, 3) := by decide +kernel
theorem dL_law_274 : decode cL_law 274 = .ok (.iconst 0, 1) := by decide +kernel
theorem dL_law_275 : decode cL_law 275 = .ok (.ireturn, 1) := by decide +kernel
theorem dL_law_276 : decode cL_law 276 = .ok (.aload_n 1, 1) := by decide +kernel
theorem dL_law_277 : decode cL_law 277 = .ok (.aload_n 0, 1) := by decide +kernel
theorem dL_law_278 : decode cL_law 278 = .ok (.iload_n 3, 1) := by decide +kernel
theorem dL_law_279 : decode cL_law 279 = .ok (.iconst 1, 1) := by decide +kernel
theorem dL_law_280 : decode cL_law 280 = .ok (.iadd, 1) := by decide +kernel
theorem dL_law_281 : decode cL_law 281 = .ok (.iaload, 1) := by decide +kernel
theorem dL_law_282 : decode cL_law 282 = .ok (.aload_n 0, 1) := by decide +kernel
theorem dL_law_283 : decode cL_law 283 = .ok (.iload_n 3, 1) := by decide +kernel
theorem dL_law_284 : decode cL_law 284 = .ok (.iconst 2, 1) := by decide +kernel
theorem dL_law_285 : decode cL_law 285 = .ok (.iadd, 1) := by decide +kernel
theorem dL_law_286 : decode cL_law 286 = .ok (.iaload, 1) := by decide +kernel
theorem dL_law_287 : decode cL_law 287 = .ok (.invokevirtual 40, 3) := by decide +kernel
theorem dL_law_290 : decode cL_law 290 = .ok (.aload_n 2, 1) := by decide +kernel
theorem dL_law_291 : decode cL_law 291 = .ok (.aload_n 0, 1) := by decide +kernel
theorem dL_law_292 : decode cL_law 292 = .ok (.iload_n 3, 1) := by decide +kernel
theorem dL_law_293 : decode cL_law 293 = .ok (.iconst 1, 1) := by decide +kernel
theorem dL_law_294 : decode cL_law 294 = .ok (.iadd, 1) := by decide +kernel
theorem dL_law_295 : decode cL_law 295 = .ok (.iaload, 1) := by decide +kernel
theorem dL_law_296 : decode cL_law 296 = .ok (.aload_n 0, 1) := by decide +kernel
theorem dL_law_297 : decode cL_law 297 = .ok (.iload_n 3, 1) := by decide +kernel
theorem dL_law_298 : decode cL_law 298 = .ok (.iconst 2, 1) := by decide +kernel
theorem dL_law_299 : decode cL_law 299 = .ok (.iadd, 1) := by decide +kernel
theorem dL_law_300 : decode cL_law 300 = .ok (.iaload, 1) := by decide +kernel
theorem dL_law_301 : decode cL_law 301 = .ok (.invokevirtual 43, 3) := by decide +kernel
theorem dL_law_304 : decode cL_law 304 = .ok (.if_icmp .eq 429, 3) := by decide +kernel
theorem dL_law_307 : decode cL_law 307 = .ok (.iconst 0, 1) := by decide +kernel
theorem dL_law_308 : decode cL_law 308 = .ok (.ireturn, 1) := by decide +kernel
theorem dL_law_309 : decode cL_law 309 = .ok (.aload_n 1, 1) := by decide +kernel
theorem dL_law_310 : decode cL_law 310 = .ok (.aload_n 0, 1) := by decide +kernel
theorem dL_law_311 : decode cL_law 311 = .ok (.iload_n 3, 1) := by decide +kernel
theorem dL_law_312 : decode cL_law 312 = .ok (.iconst 1, 1) := by decide +kernel
theorem dL_law_313 : decode cL_law 313 = .ok (.iadd, 1) := by decide +kernel
theorem dL_law_314 : decode cL_law 314 = .ok (.iaload, 1) := by decide +kernel
theorem dL_law_315 : decode cL_law 315 = .ok (.invokevirtual 44, 3) := by decide +kernel
theorem dL_law_318 : decode cL_law 318 = .ok (.aload_n 2, 1) := by decide +kernel
theorem dL_law_319 : decode cL_law 319 = .ok (.aload_n 0, 1) := by decide +kernel
theorem dL_law_320 : decode cL_law 320 = .ok (.iload_n 3, 1) := by decide +kernel
theorem dL_law_321 : decode cL_law 321 = .ok (.iconst 1, 1) := by decide +kernel
theorem dL_law_322 : decode cL_law 322 = .ok (.iadd, 1) := by decide +kernel
theorem dL_law_323 : decode cL_law 323 = .ok (.iaload, 1) := by decide +kernel
theorem dL_law_324 : decode cL_law 324 = .ok (.invokevirtual 47, 3) := by decide +kernel
theorem dL_law_327 : decode cL_law 327 = .ok (.if_icmp .eq 406, 3) := by decide +kernel
theorem dL_law_330 : decode cL_law 330 = .ok (.iconst 0, 1) := by decide +kernel
theorem dL_law_331 : decode cL_law 331 = .ok (.ireturn, 1) := by decide +kernel
theorem dL_law_332 : decode cL_law 332 = .ok (.aload_n 1, 1) := by decide +kernel
theorem dL_law_333 : decode cL_law 333 = .ok (.aload_n 0, 1) := by decide +kernel
theorem dL_law_334 : decode cL_law 334 = .ok (.iload_n 3, 1) := by decide +kernel
theorem dL_law_335 : decode cL_law 335 = .ok (.iconst 1, 1) := by decide +kernel
theorem dL_law_336 : decode cL_law 336 = .ok (.iadd, 1) := by decide +kernel
theorem dL_law_337 : decode cL_law 337 = .ok (.iaload, 1) := by decide +kernel
theorem dL_law_338 : decode cL_law 338 = .ok (.invokevirtual 48, 3) := by decide +kernel
theorem dL_law_341 : decode cL_law 341 = .ok (.aload_n 2, 1) := by decide +kernel
theorem dL_law_342 : decode cL_law 342 = .ok (.aload_n 0, 1) := by decide +kernel
theorem dL_law_343 : decode cL_law 343 = .ok (.iload_n 3, 1) := by decide +kernel
theorem dL_law_344 : decode cL_law 344 = .ok (.iconst 1, 1) := by decide +kernel
theorem dL_law_345 : decode cL_law 345 = .ok (.iadd, 1) := by decide +kernel
theorem dL_law_346 : decode cL_law 346 = .ok (.iaload, 1) := by decide +kernel
theorem dL_law_347 : decode cL_law 347 = .ok (.invokevirtual 51, 3) := by decide +kernel
theorem dL_law_350 : decode cL_law 350 = .ok (.if_icmp .eq 383, 3) := by decide +kernel
theorem dL_law_353 : decode cL_law 353 = .ok (.iconst 0, 1) := by decide +kernel
theorem dL_law_354 : decode cL_law 354 = .ok (.ireturn, 1) := by decide +kernel
theorem dL_law_355 : decode cL_law 355 = .ok (.aload_n 1, 1) := by decide +kernel
theorem dL_law_356 : decode cL_law 356 = .ok (.aload_n 0, 1) := by decide +kernel
theorem dL_law_357 : decode cL_law 357 = .ok (.iload_n 3, 1) := by decide +kernel
theorem dL_law_358 : decode cL_law 358 = .ok (.iconst 1, 1) := by decide +kernel
theorem dL_law_359 : decode cL_law 359 = .ok (.iadd, 1) := by decide +kernel
theorem dL_law_360 : decode cL_law 360 = .ok (.iaload, 1) := by decide +kernel
theorem dL_law_361 : decode cL_law 361 = .ok (.invokevirtual 52, 3) := by decide +kernel
theorem dL_law_364 : decode cL_law 364 = .ok (.aload_n 2, 1) := by decide +kernel
theorem dL_law_365 : decode cL_law 365 = .ok (.aload_n 0, 1) := by decide +kernel
theorem dL_law_366 : decode cL_law 366 = .ok (.iload_n 3, 1) := by decide +kernel
theorem dL_law_367 : decode cL_law 367 = .ok (.iconst 1, 1) := by decide +kernel
theorem dL_law_368 : decode cL_law 368 = .ok (.iadd, 1) := by decide +kernel
theorem dL_law_369 : decode cL_law 369 = .ok (.iaload, 1) := by decide +kernel
theorem dL_law_370 : decode cL_law 370 = .ok (.invokevirtual 55, 3) := by decide +kernel
theorem dL_law_373 : decode cL_law 373 = .ok (.if_icmp .eq 360, 3) := by decide +kernel
theorem dL_law_376 : decode cL_law 376 = .ok (.iconst 0, 1) := by decide +kernel
theorem dL_law_377 : decode cL_law 377 = .ok (.ireturn, 1) := by decide +kernel
theorem dL_law_378 : decode cL_law 378 = .ok (.aload_n 1, 1) := by decide +kernel
theorem dL_law_379 : decode cL_law 379 = .ok (.invokevirtual 56, 3) := by decide +kernel
theorem dL_law_382 : decode cL_law 382 = .ok (.aload_n 2, 1) := by decide +kernel
theorem dL_law_383 : decode cL_law 383 = .ok (.invokevirtual 59, 3) := by decide +kernel
theorem dL_law_386 : decode cL_law 386 = .ok (.if_icmp .eq 347, 3) := by decide +kernel
theorem dL_law_389 : decode cL_law 389 = .ok (.iconst 0, 1) := by decide +kernel
theorem dL_law_390 : decode cL_law 390 = .ok (.ireturn, 1) := by decide +kernel
theorem dL_law_391 : decode cL_law 391 = .ok (.aload_n 1, 1) := by decide +kernel
theorem dL_law_392 : decode cL_law 392 = .ok (.aload_n 0, 1) := by decide +kernel
theorem dL_law_393 : decode cL_law 393 = .ok (.iload_n 3, 1) := by decide +kernel
theorem dL_law_394 : decode cL_law 394 = .ok (.iconst 1, 1) := by decide +kernel
theorem dL_law_395 : decode cL_law 395 = .ok (.iadd, 1) := by decide +kernel
theorem dL_law_396 : decode cL_law 396 = .ok (.iaload, 1) := by decide +kernel
theorem dL_law_397 : decode cL_law 397 = .ok (.invokevirtual 60, 3) := by decide +kernel
theorem dL_law_400 : decode cL_law 400 = .ok (.aload_n 2, 1) := by decide +kernel
theorem dL_law_401 : decode cL_law 401 = .ok (.aload_n 0, 1) := by decide +kernel
theorem dL_law_402 : decode cL_law 402 = .ok (.iload_n 3, 1) := by decide +kernel
theorem dL_law_403 : decode cL_law 403 = .ok (.iconst 1, 1) := by decide +kernel
theorem dL_law_404 : decode cL_law 404 = .ok (.iadd, 1) := by decide +kernel
theorem dL_law_405 : decode cL_law 405 = .ok (.iaload, 1) := by decide +kernel
theorem dL_law_406 : decode cL_law 406 = .ok (.invokevirtual 63, 3) := by decide +kernel
theorem dL_law_409 : decode cL_law 409 = .ok (.if_icmp .eq 324, 3) := by decide +kernel
theorem dL_law_412 : decode cL_law 412 = .ok (.iconst 0, 1) := by decide +kernel
theorem dL_law_413 : decode cL_law 413 = .ok (.ireturn, 1) := by decide +kernel
theorem dL_law_414 : decode cL_law 414 = .ok (.aload_n 1, 1) := by decide +kernel
theorem dL_law_415 : decode cL_law 415 = .ok (.aload_n 0, 1) := by decide +kernel
theorem dL_law_416 : decode cL_law 416 = .ok (.iload_n 3, 1) := by decide +kernel
theorem dL_law_417 : decode cL_law 417 = .ok (.iconst 1, 1) := by decide +kernel
theorem dL_law_418 : decode cL_law 418 = .ok (.iadd, 1) := by decide +kernel
theorem dL_law_419 : decode cL_law 419 = .ok (.iaload, 1) := by decide +kernel
theorem dL_law_420 : decode cL_law 420 = .ok (.invokevirtual 64, 3) := by decide +kernel
theorem dL_law_423 : decode cL_law 423 = .ok (.aload_n 2, 1) := by decide +kernel
theorem dL_law_424 : decode cL_law 424 = .ok (.aload_n 0, 1) := by decide +kernel
theorem dL_law_425 : decode cL_law 425 = .ok (.iload_n 3, 1) := by decide +kernel
theorem dL_law_426 : decode cL_law 426 = .ok (.iconst 1, 1) := by decide +kernel
theorem dL_law_427 : decode cL_law 427 = .ok (.iadd, 1) := by decide +kernel
theorem dL_law_428 : decode cL_law 428 = .ok (.iaload, 1) := by decide +kernel
theorem dL_law_429 : decode cL_law 429 = .ok (.invokevirtual 67, 3) := by decide +kernel
theorem dL_law_432 : decode cL_law 432 = .ok (.if_icmp .eq 301, 3) := by decide +kernel
theorem dL_law_435 : decode cL_law 435 = .ok (.iconst 0, 1) := by decide +kernel
theorem dL_law_436 : decode cL_law 436 = .ok (.ireturn, 1) := by decide +kernel
theorem dL_law_437 : decode cL_law 437 = .ok (.aload_n 1, 1) := by decide +kernel
theorem dL_law_438 : decode cL_law 438 = .ok (.invokevirtual 68, 3) := by decide +kernel
theorem dL_law_441 : decode cL_law 441 = .ok (.aload_n 2, 1) := by decide +kernel
theorem dL_law_442 : decode cL_law 442 = .ok (.invokevirtual 71, 3) := by decide +kernel
theorem dL_law_445 : decode cL_law 445 = .ok (.if_icmp .eq 288, 3) := by decide +kernel
theorem dL_law_448 : decode cL_law 448 = .ok (.iconst 0, 1) := by decide +kernel
theorem dL_law_449 : decode cL_law 449 = .ok (.ireturn, 1) := by decide +kernel
theorem dL_law_450 : decode cL_law 450 = .ok (.aload_n 1, 1) := by decide +kernel
theorem dL_law_451 : decode cL_law 451 = .ok (.invokevirtual 72, 3) := by decide +kernel
theorem dL_law_454 : decode cL_law 454 = .ok (.aload_n 2, 1) := by decide +kernel
theorem dL_law_455 : decode cL_law 455 = .ok (.invokevirtual 75, 3) := by decide +kernel
theorem dL_law_458 : decode cL_law 458 = .ok (.if_icmp .eq 275, 3) := by decide +kernel
theorem dL_law_461 : decode cL_law 461 = .ok (.iconst 0, 1) := by decide +kernel
theorem dL_law_462 : decode cL_law 462 = .ok (.ireturn, 1) := by decide +kernel
theorem dL_law_463 : decode cL_law 463 = .ok (.aload_n 1, 1) := by decide +kernel
theorem dL_law_464 : decode cL_law 464 = .ok (.aload_n 0, 1) := by decide +kernel
theorem dL_law_465 : decode cL_law 465 = .ok (.iload_n 3, 1) := by decide +kernel
theorem dL_law_466 : decode cL_law 466 = .ok (.iconst 1, 1) := by decide +kernel
theorem dL_law_467 : decode cL_law 467 = .ok (.iadd, 1) := by decide +kernel
theorem dL_law_468 : decode cL_law 468 = .ok (.iaload, 1) := by decide +kernel
theorem dL_law_469 : decode cL_law 469 = .ok (.invokevirtual 76, 3) := by decide +kernel
theorem dL_law_472 : decode cL_law 472 = .ok (.aload_n 2, 1) := by decide +kernel
theorem dL_law_473 : decode cL_law 473 = .ok (.aload_n 0, 1) := by decide +kernel
theorem dL_law_474 : decode cL_law 474 = .ok (.iload_n 3, 1) := by decide +kernel
theorem dL_law_475 : decode cL_law 475 = .ok (.iconst 1, 1) := by decide +kernel
theorem dL_law_476 : decode cL_law 476 = .ok (.iadd, 1) := by decide +kernel
theorem dL_law_477 : decode cL_law 477 = .ok (.iaload, 1) := by decide +kernel
theorem dL_law_478 : decode cL_law 478 = .ok (.invokevirtual 79, 3) := by decide +kernel
theorem dL_law_481 : decode cL_law 481 = .ok (.if_icmp .eq 252, 3) := by decide +kernel
theorem dL_law_484 : decode cL_law 484 = .ok (.iconst 0, 1) := by decide +kernel
theorem dL_law_485 : decode cL_law 485 = .ok (.ireturn, 1) := by decide +kernel
theorem dL_law_486 : decode cL_law 486 = .ok (.aload_n 1, 1) := by decide +kernel
theorem dL_law_487 : decode cL_law 487 = .ok (.aload_n 0, 1) := by decide +kernel
theorem dL_law_488 : decode cL_law 488 = .ok (.iload_n 3, 1) := by decide +kernel
theorem dL_law_489 : decode cL_law 489 = .ok (.iconst 1, 1) := by decide +kernel
theorem dL_law_490 : decode cL_law 490 = .ok (.iadd, 1) := by decide +kernel
theorem dL_law_491 : decode cL_law 491 = .ok (.iaload, 1) := by decide +kernel
theorem dL_law_492 : decode cL_law 492 = .ok (.aload_n 0, 1) := by decide +kernel
theorem dL_law_493 : decode cL_law 493 = .ok (.iload_n 3, 1) := by decide +kernel
theorem dL_law_494 : decode cL_law 494 = .ok (.iconst 2, 1) := by decide +kernel
theorem dL_law_495 : decode cL_law 495 = .ok (.iadd, 1) := by decide +kernel
theorem dL_law_496 : decode cL_law 496 = .ok (.iaload, 1) := by decide +kernel
theorem dL_law_497 : decode cL_law 497 = .ok (.aload_n 0, 1) := by decide +kernel
theorem dL_law_498 : decode cL_law 498 = .ok (.iload_n 3, 1) := by decide +kernel
theorem dL_law_499 : decode cL_law 499 = .ok (.iconst 3, 1) := by decide +kernel
theorem dL_law_500 : decode cL_law 500 = .ok (.iadd, 1) := by decide +kernel
theorem dL_law_501 : decode cL_law 501 = .ok (.iaload, 1) := by decide +kernel
theorem dL_law_502 : decode cL_law 502 = .ok (.invokevirtual 80, 3) := by decide +kernel
theorem dL_law_505 : decode cL_law 505 = .ok (.aload_n 2, 1) := by decide +kernel
theorem dL_law_506 : decode cL_law 506 = .ok (.aload_n 0, 1) := by decide +kernel
theorem dL_law_507 : decode cL_law 507 = .ok (.iload_n 3, 1) := by decide +kernel
theorem dL_law_508 : decode cL_law 508 = .ok (.iconst 1, 1) := by decide +kernel
theorem dL_law_509 : decode cL_law 509 = .ok (.iadd, 1) := by decide +kernel
theorem dL_law_510 : decode cL_law 510 = .ok (.iaload, 1) := by decide +kernel
theorem dL_law_511 : decode cL_law 511 = .ok (.aload_n 0, 1) := by decide +kernel
theorem dL_law_512 : decode cL_law 512 = .ok (.iload_n 3, 1) := by decide +kernel
theorem dL_law_513 : decode cL_law 513 = .ok (.iconst 2, 1) := by decide +kernel
theorem dL_law_514 : decode cL_law 514 = .ok (.iadd, 1) := by decide +kernel
theorem dL_law_515 : decode cL_law 515 = .ok (.iaload, 1) := by decide +kernel
theorem dL_law_516 : decode cL_law 516 = .ok (.aload_n 0, 1) := by decide +kernel
theorem dL_law_517 : decode cL_law 517 = .ok (.iload_n 3, 1) := by decide +kernel
theorem dL_law_518 : decode cL_law 518 = .ok (.iconst 3, 1) := by decide +kernel
theorem dL_law_519 : decode cL_law 519 = .ok (.iadd, 1) := by decide +kernel
theorem dL_law_520 : decode cL_law 520 = .ok (.iaload, 1) := by decide +kernel
theorem dL_law_521 : decode cL_law 521 = .ok (.invokevirtual 84, 3) := by decide +kernel
theorem dL_law_524 : decode cL_law 524 = .ok (.if_icmp .eq 209, 3) := by decide +kernel
theorem dL_law_527 : decode cL_law 527 = .ok (.iconst 0, 1) := by decide +kernel
theorem dL_law_528 : decode cL_law 528 = .ok (.ireturn, 1) := by decide +kernel
theorem dL_law_529 : decode cL_law 529 = .ok (.aload_n 1, 1) := by decide +kernel
theorem dL_law_530 : decode cL_law 530 = .ok (.invokevirtual 85, 3) := by decide +kernel
theorem dL_law_533 : decode cL_law 533 = .ok (.aload_n 2, 1) := by decide +kernel
theorem dL_law_534 : decode cL_law 534 = .ok (.invokevirtual 88, 3) := by decide +kernel
theorem dL_law_537 : decode cL_law 537 = .ok (.if_icmp .eq 196, 3) := by decide +kernel
theorem dL_law_540 : decode cL_law 540 = .ok (.iconst 0, 1) := by decide +kernel
theorem dL_law_541 : decode cL_law 541 = .ok (.ireturn, 1) := by decide +kernel
theorem dL_law_542 : decode cL_law 542 = .ok (.aload_n 1, 1) := by decide +kernel
theorem dL_law_543 : decode cL_law 543 = .ok (.aload_n 0, 1) := by decide +kernel
theorem dL_law_544 : decode cL_law 544 = .ok (.iload_n 3, 1) := by decide +kernel
theorem dL_law_545 : decode cL_law 545 = .ok (.iconst 1, 1) := by decide +kernel
theorem dL_law_546 : decode cL_law 546 = .ok (.iadd, 1) := by decide +kernel
theorem dL_law_547 : decode cL_law 547 = .ok (.iaload, 1) := by decide +kernel
theorem dL_law_548 : decode cL_law 548 = .ok (.invokevirtual 89, 3) := by decide +kernel
theorem dL_law_551 : decode cL_law 551 = .ok (.aload_n 2, 1) := by decide +kernel
theorem dL_law_552 : decode cL_law 552 = .ok (.aload_n 0, 1) := by decide +kernel
theorem dL_law_553 : decode cL_law 553 = .ok (.iload_n 3, 1) := by decide +kernel
theorem dL_law_554 : decode cL_law 554 = .ok (.iconst 1, 1) := by decide +kernel
theorem dL_law_555 : decode cL_law 555 = .ok (.iadd, 1) := by decide +kernel
theorem dL_law_556 : decode cL_law 556 = .ok (.iaload, 1) := by decide +kernel
theorem dL_law_557 : decode cL_law 557 = .ok (.invokevirtual 92, 3) := by decide +kernel
theorem dL_law_560 : decode cL_law 560 = .ok (.if_icmp .eq 173, 3) := by decide +kernel
theorem dL_law_563 : decode cL_law 563 = .ok (.iconst 0, 1) := by decide +kernel
theorem dL_law_564 : decode cL_law 564 = .ok (.ireturn, 1) := by decide +kernel
theorem dL_law_565 : decode cL_law 565 = .ok (.aload_n 1, 1) := by decide +kernel
theorem dL_law_566 : decode cL_law 566 = .ok (.aload_n 0, 1) := by decide +kernel
theorem dL_law_567 : decode cL_law 567 = .ok (.iload_n 3, 1) := by decide +kernel
theorem dL_law_568 : decode cL_law 568 = .ok (.iconst 1, 1) := by decide +kernel
theorem dL_law_569 : decode cL_law 569 = .ok (.iadd, 1) := by decide +kernel
theorem dL_law_570 : decode cL_law 570 = .ok (.iaload, 1) := by decide +kernel
theorem dL_law_571 : decode cL_law 571 = .ok (.aload_n 0, 1) := by decide +kernel
theorem dL_law_572 : decode cL_law 572 = .ok (.iload_n 3, 1) := by decide +kernel
theorem dL_law_573 : decode cL_law 573 = .ok (.iconst 2, 1) := by decide +kernel
theorem dL_law_574 : decode cL_law 574 = .ok (.iadd, 1) := by decide +kernel
theorem dL_law_575 : decode cL_law 575 = .ok (.iaload, 1) := by decide +kernel
theorem dL_law_576 : decode cL_law 576 = .ok (.invokevirtual 93, 3) := by decide +kernel
theorem dL_law_579 : decode cL_law 579 = .ok (.aload_n 2, 1) := by decide +kernel
theorem dL_law_580 : decode cL_law 580 = .ok (.aload_n 0, 1) := by decide +kernel
theorem dL_law_581 : decode cL_law 581 = .ok (.iload_n 3, 1) := by decide +kernel
theorem dL_law_582 : decode cL_law 582 = .ok (.iconst 1, 1) := by decide +kernel
theorem dL_law_583 : decode cL_law 583 = .ok (.iadd, 1) := by decide +kernel
theorem dL_law_584 : decode cL_law 584 = .ok (.iaload, 1) := by decide +kernel
theorem dL_law_585 : decode cL_law 585 = .ok (.aload_n 0, 1) := by decide +kernel
theorem dL_law_586 : decode cL_law 586 = .ok (.iload_n 3, 1) := by decide +kernel
theorem dL_law_587 : decode cL_law 587 = .ok (.iconst 2, 1) := by decide +kernel
theorem dL_law_588 : decode cL_law 588 = .ok (.iadd, 1) := by decide +kernel
theorem dL_law_589 : decode cL_law 589 = .ok (.iaload, 1) := by decide +kernel
theorem dL_law_590 : decode cL_law 590 = .ok (.invokevirtual 96, 3) := by decide +kernel
theorem dL_law_593 : decode cL_law 593 = .ok (.if_icmp .eq 140, 3) := by decide +kernel
theorem dL_law_596 : decode cL_law 596 = .ok (.iconst 0, 1) := by decide +kernel
theorem dL_law_597 : decode cL_law 597 = .ok (.ireturn, 1) := by decide +kernel
theorem dL_law_598 : decode cL_law 598 = .ok (.aload_n 1, 1) := by decide +kernel
theorem dL_law_599 : decode cL_law 599 = .ok (.aload_n 0, 1) := by decide +kernel
theorem dL_law_600 : decode cL_law 600 = .ok (.iload_n 3, 1) := by decide +kernel
theorem dL_law_601 : decode cL_law 601 = .ok (.iconst 1, 1) := by decide +kernel
theorem dL_law_602 : decode cL_law 602 = .ok (.iadd, 1) := by decide +kernel
theorem dL_law_603 : decode cL_law 603 = .ok (.iaload, 1) := by decide +kernel
theorem dL_law_604 : decode cL_law 604 = .ok (.aload_n 0, 1) := by decide +kernel
theorem dL_law_605 : decode cL_law 605 = .ok (.iload_n 3, 1) := by decide +kernel
theorem dL_law_606 : decode cL_law 606 = .ok (.iconst 2, 1) := by decide +kernel
theorem dL_law_607 : decode cL_law 607 = .ok (.iadd, 1) := by decide +kernel
theorem dL_law_608 : decode cL_law 608 = .ok (.iaload, 1) := by decide +kernel
theorem dL_law_609 : decode cL_law 609 = .ok (.aload_n 0, 1) := by decide +kernel
theorem dL_law_610 : decode cL_law 610 = .ok (.iload_n 3, 1) := by decide +kernel
theorem dL_law_611 : decode cL_law 611 = .ok (.iconst 3, 1) := by decide +kernel
theorem dL_law_612 : decode cL_law 612 = .ok (.iadd, 1) := by decide +kernel
theorem dL_law_613 : decode cL_law 613 = .ok (.iaload, 1) := by decide +kernel
theorem dL_law_614 : decode cL_law 614 = .ok (.invokevirtual 97, 3) := by decide +kernel
theorem dL_law_617 : decode cL_law 617 = .ok (.aload_n 2, 1) := by decide +kernel
theorem dL_law_618 : decode cL_law 618 = .ok (.aload_n 0, 1) := by decide +kernel
theorem dL_law_619 : decode cL_law 619 = .ok (.iload_n 3, 1) := by decide +kernel
theorem dL_law_620 : decode cL_law 620 = .ok (.iconst 1, 1) := by decide +kernel
theorem dL_law_621 : decode cL_law 621 = .ok (.iadd, 1) := by decide +kernel
theorem dL_law_622 : decode cL_law 622 = .ok (.iaload, 1) := by decide +kernel
theorem dL_law_623 : decode cL_law 623 = .ok (.aload_n 0, 1) := by decide +kernel
theorem dL_law_624 : decode cL_law 624 = .ok (.iload_n 3, 1) := by decide +kernel
theorem dL_law_625 : decode cL_law 625 = .ok (.iconst 2, 1) := by decide +kernel
theorem dL_law_626 : decode cL_law 626 = .ok (.iadd, 1) := by decide +kernel
theorem dL_law_627 : decode cL_law 627 = .ok (.iaload, 1) := by decide +kernel
theorem dL_law_628 : decode cL_law 628 = .ok (.aload_n 0, 1) := by decide +kernel
theorem dL_law_629 : decode cL_law 629 = .ok (.iload_n 3, 1) := by decide +kernel
theorem dL_law_630 : decode cL_law 630 = .ok (.iconst 3, 1) := by decide +kernel
theorem dL_law_631 : decode cL_law 631 = .ok (.iadd, 1) := by decide +kernel
theorem dL_law_632 : decode cL_law 632 = .ok (.iaload, 1) := by decide +kernel
theorem dL_law_633 : decode cL_law 633 = .ok (.invokevirtual 100, 3) := by decide +kernel
theorem dL_law_636 : decode cL_law 636 = .ok (.if_icmp .eq 97, 3) := by decide +kernel
theorem dL_law_639 : decode cL_law 639 = .ok (.iconst 0, 1) := by decide +kernel
theorem dL_law_640 : decode cL_law 640 = .ok (.ireturn, 1) := by decide +kernel
theorem dL_law_641 : decode cL_law 641 = .ok (.aload_n 1, 1) := by decide +kernel
theorem dL_law_642 : decode cL_law 642 = .ok (.aload_n 0, 1) := by decide +kernel
theorem dL_law_643 : decode cL_law 643 = .ok (.iload_n 3, 1) := by decide +kernel
theorem dL_law_644 : decode cL_law 644 = .ok (.iconst 1, 1) := by decide +kernel
theorem dL_law_645 : decode cL_law 645 = .ok (.iadd, 1) := by decide +kernel
theorem dL_law_646 : decode cL_law 646 = .ok (.iaload, 1) := by decide +kernel
theorem dL_law_647 : decode cL_law 647 = .ok (.aload_n 0, 1) := by decide +kernel
theorem dL_law_648 : decode cL_law 648 = .ok (.iload_n 3, 1) := by decide +kernel
theorem dL_law_649 : decode cL_law 649 = .ok (.iconst 2, 1) := by decide +kernel
theorem dL_law_650 : decode cL_law 650 = .ok (.iadd, 1) := by decide +kernel
theorem dL_law_651 : decode cL_law 651 = .ok (.iaload, 1) := by decide +kernel
theorem dL_law_652 : decode cL_law 652 = .ok (.aload_n 0, 1) := by decide +kernel
theorem dL_law_653 : decode cL_law 653 = .ok (.iload_n 3, 1) := by decide +kernel
theorem dL_law_654 : decode cL_law 654 = .ok (.iconst 3, 1) := by decide +kernel
theorem dL_law_655 : decode cL_law 655 = .ok (.iadd, 1) := by decide +kernel
theorem dL_law_656 : decode cL_law 656 = .ok (.iaload, 1) := by decide +kernel
theorem dL_law_657 : decode cL_law 657 = .ok (.invokevirtual 101, 3) := by decide +kernel
theorem dL_law_660 : decode cL_law 660 = .ok (.aload_n 2, 1) := by decide +kernel
theorem dL_law_661 : decode cL_law 661 = .ok (.aload_n 0, 1) := by decide +kernel
theorem dL_law_662 : decode cL_law 662 = .ok (.iload_n 3, 1) := by decide +kernel
theorem dL_law_663 : decode cL_law 663 = .ok (.iconst 1, 1) := by decide +kernel
theorem dL_law_664 : decode cL_law 664 = .ok (.iadd, 1) := by decide +kernel
theorem dL_law_665 : decode cL_law 665 = .ok (.iaload, 1) := by decide +kernel
theorem dL_law_666 : decode cL_law 666 = .ok (.aload_n 0, 1) := by decide +kernel
theorem dL_law_667 : decode cL_law 667 = .ok (.iload_n 3, 1) := by decide +kernel
theorem dL_law_668 : decode cL_law 668 = .ok (.iconst 2, 1) := by decide +kernel
theorem dL_law_669 : decode cL_law 669 = .ok (.iadd, 1) := by decide +kernel
theorem dL_law_670 : decode cL_law 670 = .ok (.iaload, 1) := by decide +kernel
theorem dL_law_671 : decode cL_law 671 = .ok (.aload_n 0, 1) := by decide +kernel
theorem dL_law_672 : decode cL_law 672 = .ok (.iload_n 3, 1) := by decide +kernel
theorem dL_law_673 : decode cL_law 673 = .ok (.iconst 3, 1) := by decide +kernel
theorem dL_law_674 : decode cL_law 674 = .ok (.iadd, 1) := by decide +kernel
theorem dL_law_675 : decode cL_law 675 = .ok (.iaload, 1) := by decide +kernel
theorem dL_law_676 : decode cL_law 676 = .ok (.invokevirtual 104, 3) := by decide +kernel
theorem dL_law_679 : decode cL_law 679 = .ok (.if_icmp .eq 54, 3) := by decide +kernel
theorem dL_law_682 : decode cL_law 682 = .ok (.iconst 0, 1) := by decide +kernel
theorem dL_law_683 : decode cL_law 683 = .ok (.ireturn, 1) := by decide +kernel
theorem dL_law_684 : decode cL_law 684 = .ok (.aload_n 1, 1) := by decide +kernel
theorem dL_law_685 : decode cL_law 685 = .ok (.invokevirtual 105, 3) := by decide +kernel
theorem dL_law_688 : decode cL_law 688 = .ok (.aload_n 2, 1) := by decide +kernel
theorem dL_law_689 : decode cL_law 689 = .ok (.invokevirtual 108, 3) := by decide +kernel
theorem dL_law_692 : decode cL_law 692 = .ok (.if_icmp .eq 41, 3) := by decide +kernel
theorem dL_law_695 : decode cL_law 695 = .ok (.iconst 0, 1) := by decide +kernel
theorem dL_law_696 : decode cL_law 696 = .ok (.ireturn, 1) := by decide +kernel
theorem dL_law_697 : decode cL_law 697 = .ok (.aload_n 1, 1) := by decide +kernel
theorem dL_law_698 : decode cL_law 698 = .ok (.invokevirtual 109, 3) := by decide +kernel
theorem dL_law_701 : decode cL_law 701 = .ok (.aload_n 2, 1) := by decide +kernel
theorem dL_law_702 : decode cL_law 702 = .ok (.invokevirtual 112, 3) := by decide +kernel
theorem dL_law_705 : decode cL_law 705 = .ok (.if_icmp .eq 28, 3) := by decide +kernel
theorem dL_law_708 : decode cL_law 708 = .ok (.iconst 0, 1) := by decide +kernel
theorem dL_law_709 : decode cL_law 709 = .ok (.ireturn, 1) := by decide +kernel
theorem dL_law_710 : decode cL_law 710 = .ok (.aload_n 1, 1) := by decide +kernel
theorem dL_law_711 : decode cL_law 711 = .ok (.aload_n 0, 1) := by decide +kernel
theorem dL_law_712 : decode cL_law 712 = .ok (.iload_n 3, 1) := by decide +kernel
theorem dL_law_713 : decode cL_law 713 = .ok (.iconst 1, 1) := by decide +kernel
theorem dL_law_714 : decode cL_law 714 = .ok (.iadd, 1) := by decide +kernel
theorem dL_law_715 : decode cL_law 715 = .ok (.iaload, 1) := by decide +kernel
theorem dL_law_716 : decode cL_law 716 = .ok (.invokevirtual 113, 3) := by decide +kernel
theorem dL_law_719 : decode cL_law 719 = .ok (.aload_n 2, 1) := by decide +kernel
theorem dL_law_720 : decode cL_law 720 = .ok (.aload_n 0, 1) := by decide +kernel
theorem dL_law_721 : decode cL_law 721 = .ok (.iload_n 3, 1) := by decide +kernel
theorem dL_law_722 : decode cL_law 722 = .ok (.iconst 1, 1) := by decide +kernel
theorem dL_law_723 : decode cL_law 723 = .ok (.iadd, 1) := by decide +kernel
theorem dL_law_724 : decode cL_law 724 = .ok (.iaload, 1) := by decide +kernel
theorem dL_law_725 : decode cL_law 725 = .ok (.invokevirtual 116, 3) := by decide +kernel
theorem dL_law_728 : decode cL_law 728 = .ok (.if_icmp .eq 5, 3) := by decide +kernel
theorem dL_law_731 : decode cL_law 731 = .ok (.iconst 0, 1) := by decide +kernel
theorem dL_law_732 : decode cL_law 732 = .ok (.ireturn, 1) := by decide +kernel
theorem dL_law_733 : decode cL_law 733 = .ok (.iinc 3 4, 3) := by decide +kernel
theorem dL_law_736 : decode cL_law 736 = .ok (.goto (-718), 3) := by decide +kernel
theorem dL_law_739 : decode cL_law 739 = .ok (.iconst 1, 1) := by decide +kernel
theorem dL_law_740 : decode cL_law 740 = .ok (.ireturn, 1) := by decide +kernel
end
section
/-! THE FLAT MACHINE: one memory of ints for the whole system (cell, slot), a fixed layout, one row an instruction -/
def gw : List Cond := lw_tbl.filter goodWord
theorem gw_tbl {w : Cond} (h : w ∈ gw) : w ∈ lw_tbl := (List.mem_filter.mp h).1
theorem gw_in {w : Cond} (h : w ∈ lw_tbl) (hg : goodWord w = true) : w ∈ gw := List.mem_filter.mpr ⟨h, hg⟩
theorem gw_t {w : Cond} (i : Nat) (h : tables_1[i]? = some w) (hg : goodWord w = true) : w ∈ gw := gw_in (List.mem_append_right _ (List.mem_of_getElem? h)) hg
theorem gw_s {w : Cond} (i : Nat) (h : (k2_sels lw_privs)[i]? = some w) (hg : goodWord w = true) : w ∈ gw := gw_in (List.mem_append_left _ (List.mem_of_getElem? h)) hg
theorem gw_good {big : List Cond} {w : Cond} (h : w ∈ gw) (hb : ∀ x ∈ gw, x ∈ big) : GoodIn big (w :: gw) := by
  intro x hx
  have hx' : x ∈ gw := (List.mem_cons.mp hx).elim (fun e => e ▸ h) id
  exact ⟨hb x hx', good_of_word (List.mem_filter.mp hx').2⟩
def fm_isNest : Cond → Bool
  | .fieldLinkNest _ _ _ _ _ _ => true
  | .methodLinkNest _ _ _ _ => true
  | _ => false
def fm_nest : List Cond := tables_1.filter fm_isNest
theorem fm_nest_t {w : Cond} (i : Nat) (h : tables_1[i]? = some w) (hg : fm_isNest w = true) : w ∈ fm_nest := List.mem_filter.mpr ⟨List.mem_of_getElem? h, hg⟩
theorem fm_nest_warm {w : Cond} (hw : fm_isNest w = true) {s U : State} (hW : s.WarmedH U.vm) (h : va_Nw w s) : va_Nw w U := by
  cases w <;> first | exact va_Nw.warmF hW h | exact va_Nw.warmM hW h | cases hw
theorem fm_nest_on {w : Cond} (hw : fm_isNest w = true) : w.onTables = true := by
  cases w <;> first | rfl | cases hw
-- memory
abbrev fm_M : Type := Nat → Nat → Int32
abbrev fm_L : Type := (Nat × Nat) ⊕ (Nat × List (Option Nat))
abbrev fm_W : Type := va_G × (Nat → ClassId) × Nat × (Nat → Nat)
/-- a cell's address; 1000 is the class's own table BY_NUMBER, which nobody writes -/
def fm_ad (w : fm_W) : Nat → Nat := fun c => if c = 1000 then w.2.2.1 else w.2.2.2 c
def fm_st (σ : fm_M) (c : Nat) (f : Nat → Int32) : fm_M := fun c' => if c' = c then f else σ c'
def fm_up (σ : fm_M) (c k : Nat) (v : Int32) : fm_M := fm_st σ c (upd (σ c) k v)
def fm_cp (σ : fm_M) (c : Nat) (sp : Nat) (d : Nat) (dp n : Nat) : fm_M := fm_st σ d (va_cpy (σ c) (σ d) sp dp n)
def fm_fl (ad : Nat → Nat) (f : Nat → Int32) : Nat → List (Option Nat) → List Value
  | _, [] => []
  | k, none :: t => .int (f k) :: fm_fl ad f (k + 1) t
  | k, some c :: t => .ref (ad c) :: fm_fl ad f (k + 1) t
def fm_fv (ad : Nat → Nat) (f : Nat → Int32) (k : Nat) : Option Nat → Value
  | none => .int (f k)
  | some c => .ref (ad c)
theorem fm_fl_get (ad : Nat → Nat) (f : Nat → Int32) : ∀ (tm : List (Option Nat)) (j k : Nat), (fm_fl ad f j tm)[k]? = (tm[k]?).map (fm_fv ad f (j + k))
  | [], j, k => by simp [fm_fl]
  | none :: t, j, 0 => by simp [fm_fl, fm_fv]
  | some c :: t, j, 0 => by simp [fm_fl, fm_fv]
  | none :: t, j, k + 1 => by
    rw [fm_fl, List.getElem?_cons_succ, List.getElem?_cons_succ, fm_fl_get ad f t (j + 1) k, show j + 1 + k = j + (k + 1) by omega]
  | some c :: t, j, k + 1 => by
    rw [fm_fl, List.getElem?_cons_succ, List.getElem?_cons_succ, fm_fl_get ad f t (j + 1) k, show j + 1 + k = j + (k + 1) by omega]
theorem fm_fl_len (ad : Nat → Nat) (f : Nat → Int32) : ∀ (tm : List (Option Nat)) (j : Nat), (fm_fl ad f j tm).length = tm.length
  | [], j => rfl
  | none :: t, j => by rw [fm_fl, List.length_cons, List.length_cons, fm_fl_len ad f t]
  | some c :: t, j => by rw [fm_fl, List.length_cons, List.length_cons, fm_fl_len ad f t]
theorem fm_fl_set (ad : Nat → Nat) (f : Nat → Int32) (v : Int32) (tm : List (Option Nat)) (k : Nat) (h : tm[k]? = some none) : (fm_fl ad f 0 tm).set k (.int v) = fm_fl ad (upd f k v) 0 tm := by
  apply List.ext_getElem?
  intro i
  have hk : k < tm.length := (List.getElem?_eq_some_iff.mp h).1
  rw [fm_fl_get, Nat.zero_add]
  by_cases e : i = k
  · subst e
    rw [List.getElem?_set_self (by rw [fm_fl_len]; exact hk), h]
    simp [fm_fv, upd]
  · rw [List.getElem?_set_ne (Ne.symm e), fm_fl_get, Nat.zero_add]
    cases tm[i]? with
    | none => rfl
    | some o => cases o with
      | none => simp [fm_fv, upd, e]
      | some c => rfl
def fm_ce (w : fm_W) (lay : Nat → fm_L) (σ : fm_M) (c : Nat) : va_E := match lay c with
  | .inl (k, n) => .inl (w.2.1 k, n, if k = 3 then .inr (.inr (.inr (.inr (fun j => some (fm_ad w (c + 1 + 7 * j)))))) else .inl (σ c))
  | .inr (ci, tm) => .inr (ci, fm_fl (fm_ad w) (σ c) 0 tm)
def fm_ws (w : fm_W) (lay : Nat → fm_L) (N : Nat) (σ : fm_M) : va_W := (List.range N).map (fun c => (fm_ad w c, fm_ce w lay σ c))
theorem fm_ws_get {w : fm_W} {lay : Nat → fm_L} {N : Nat} {σ : fm_M} {c : Nat} (h : c < N) : (fm_ws w lay N σ)[c]? = some (fm_ad w c, fm_ce w lay σ c) := by
  simp [fm_ws, h]
theorem fm_ws_len {w : fm_W} {lay : Nat → fm_L} {N : Nat} {σ : fm_M} : (fm_ws w lay N σ).length = N := by simp [fm_ws]
theorem fm_st_ne {σ : fm_M} {c c' : Nat} {f : Nat → Int32} (h : ¬ c' = c) : fm_st σ c f c' = σ c' := by simp [fm_st, h]
theorem fm_st_eq {σ : fm_M} {c : Nat} {f : Nat → Int32} : fm_st σ c f c = f := by simp [fm_st]
theorem fm_ce_st {w : fm_W} {lay : Nat → fm_L} {σ : fm_M} {c c' : Nat} {f : Nat → Int32} (h : ¬ c' = c) : fm_ce w lay (fm_st σ c f) c' = fm_ce w lay σ c' := by
  unfold fm_ce
  rw [fm_st_ne h]
theorem fm_ws_set {w : fm_W} {lay : Nat → fm_L} {N : Nat} {σ : fm_M} {c : Nat} {f : Nat → Int32} {x : va_E} (h : c < N) (hx : x = fm_ce w lay (fm_st σ c f) c) : (fm_ws w lay N σ).set c (fm_ad w c, x) = fm_ws w lay N (fm_st σ c f) := by
  apply List.ext_getElem?
  intro i
  by_cases e : i = c
  · subst e
    rw [List.getElem?_set_self (by rw [fm_ws_len]; exact h), fm_ws_get h, hx]
  · rw [List.getElem?_set_ne (Ne.symm e)]
    by_cases hi : i < N
    · rw [fm_ws_get hi, fm_ws_get hi, fm_ce_st e]
    · simp [fm_ws, hi]
theorem fm_ce_arr {w : fm_W} {lay : Nat → fm_L} {σ : fm_M} {c k n : Nat} (h : lay c = .inl (k, n)) (hk : ¬ k = 3) : fm_ce w lay σ c = .inl (w.2.1 k, n, .inl (σ c)) := by
  unfold fm_ce; rw [h]; simp [hk]
theorem fm_ce_arq {w : fm_W} {lay : Nat → fm_L} {σ : fm_M} {c n : Nat} (h : lay c = .inl (3, n)) : fm_ce w lay σ c = .inl (w.2.1 3, n, .inr (.inr (.inr (.inr (fun j => some (fm_ad w (c + 1 + 7 * j))))))) := by
  unfold fm_ce; rw [h]; simp
theorem fm_ce_obj {w : fm_W} {lay : Nat → fm_L} {σ : fm_M} {c ci : Nat} {tm : List (Option Nat)} (h : lay c = .inr (ci, tm)) : fm_ce w lay σ c = .inr (ci, fm_fl (fm_ad w) (σ c) 0 tm) := by
  unfold fm_ce; rw [h]
-- worlds
def fm_P (w : fm_W) (lay : Nat → fm_L) (N : Nat) (σ : fm_M) (H : Heap) : Prop := va_P w.1 vwCl (fm_ws w lay N σ) H ∧ ∀ j, j < 6 → σ 1000 j = nI j
def fm_I (w : fm_W) (N : Nat) : Prop := N ≤ 1000 ∧ ∀ c d : Nat, c < N → d < N → fm_ad w c = fm_ad w d → c = d
def fm_A (w : fm_W) (N : Nat) : Nat → Prop := fun q => ∃ c, c < N ∧ q = fm_ad w c
theorem fm_ws_of {w : fm_W} {lay : Nat → fm_L} {N : Nat} {σ : fm_M} {i : Nat} {q : Nat × va_E} (h : (fm_ws w lay N σ)[i]? = some q) : i < N ∧ q = (fm_ad w i, fm_ce w lay σ i) := by
  have hi : i < N := by
    have := (List.getElem?_eq_some_iff.mp h).1
    rwa [fm_ws_len] at this
  rw [fm_ws_get hi] at h
  exact ⟨hi, (Option.some.inj h).symm⟩
theorem fm_D {w : fm_W} {lay : Nat → fm_L} {N : Nat} (h : fm_I w N) (σ : fm_M) : va_D (fm_A w N) (fm_ws w lay N σ) := by
  refine ⟨fun i j p q hi hj e => ?_, fun k q hk => ?_⟩
  · obtain ⟨h1, e1⟩ := fm_ws_of hi
    obtain ⟨h2, e2⟩ := fm_ws_of hj
    subst e1; subst e2
    exact h.2 i j h1 h2 e
  · obtain ⟨h1, e1⟩ := fm_ws_of hk
    subst e1
    exact ⟨k, h1, rfl⟩
def fm_ty (w : fm_W) : List (ClassId × FieldType) := [(w.2.1 0, .int), (w.2.1 1, .char), (w.2.1 2, .boolean), (w.2.1 3, .object "SnowSuits$Hall")]
def fm_K (w : fm_W) (N : Nat) (U : State) : Prop := va_K w.1 vwCl (fm_ty w) U ∧ (∀ x ∈ fm_nest, va_Nw x U) ∧ va_Z "SnowSuits" "BY_NUMBER" "[I" (.ref (fm_ad w 1000)) (fm_A w N) U U.heap ∧ va_T .int (fm_ad w 1000) 6 (fun j => .int (nI j)) (fm_A w N) U U.heap
theorem fm_T_moved {ty : FieldType} {t N : Nat} {f : Nat → Value} {A : Nat → Prop} {u U : State} {H : Heap} (hvm : u.vm.Alike U.vm) (h : va_T ty t N f A u H) : va_T ty t N f A U H := by
  obtain ⟨cell, h1, h2, h3, h4⟩ := h
  exact ⟨cell, h1, State.isArrayOf_alike hvm h2, h3, h4⟩
/-- behind instructions and calls of the method that began at s -/
theorem fm_K.on {w : fm_W} {N : Nat} {s U : State} {H : Heap} {locs : List Loc} (h : fm_K w N s) (hS : va_S (fm_A w N) s.heap H locs) (hU : U.heap = H) (hW : s.WarmedH U.vm) : fm_K w N U := by
  obtain ⟨h1, h2, h3, h4⟩ := h
  refine ⟨va_K.moved hW.alike h1, fun x hx => fm_nest_warm (List.mem_filter.mp hx).2 hW (h2 x hx), ?_, ?_⟩
  · rw [hU]; exact (h3.moved hW.alike).kept (fun a h h' => hS.2.1 a h h')
  · rw [hU]; exact (fm_T_moved hW.alike h4).kept (fun a h h' => hS.2.1 a h h')
theorem fm_K.calling {w : fm_W} {N : Nat} {U : State} {g : JFrame} {mk : MethodId} {a : Array Value} (h : fm_K w N U) : fm_K w N (U.calling g mk a) := by
  obtain ⟨h1, h2, h3, h4⟩ := h
  exact ⟨va_K.moved (u := U) (U := U.calling g mk a) (Vm.Alike.refl U.vm) h1, fun x hx => va_Nw.same (fm_nest_on (List.mem_filter.mp hx).2) (u := U) (U := U.calling g mk a) rfl (h2 x hx), va_Z.moved (u := U) (U := U.calling g mk a) (Vm.Alike.refl U.vm) h3, fm_T_moved (u := U) (U := U.calling g mk a) (Vm.Alike.refl U.vm) h4⟩
abbrev fm_O : Type := Option Value × fm_M
def fm_Q (w : fm_W) (lay : Nat → fm_L) (N : Nat) (o : fm_O) : Array Value → State → Outcome → State → Prop := fun _ st oc t => oc = .returned o.1 ∧ fm_P w lay N o.2 t.heap ∧ va_F (fm_A w N) st t
def fm_Pc (w : fm_W) (lay : Nat → fm_L) (N : Nat) (as : List Value) (σ : fm_M) : Array Value → State → Prop := va_Pc as (fun U => fm_P w lay N σ U.heap ∧ fm_K w N U)
/-- a contract: with these arguments, at this memory, the method ends so -/
def fm_C (w : fm_W) (lay : Nat → fm_L) (N : Nat) (l : Launch) (y : MethodName) (cc : ByteArray) (nL : Nat) (ret : Option FieldType) (rm : Room) (as : List Value) (σ : fm_M) (o : fm_O) : Prop :=
  Met l y (.code y cc nL ret :: gw) rm (fm_Pc w lay N as σ) (fm_Q w lay N o) 0 0 (fm_A w N)
def fm_X (w : fm_W) (N : Nat) (cc : ByteArray) (nL : Nat) (own : String) (ret : Option FieldType) (p : Program) (s : State) (m : MethodId) (args : Array Value) (meth : Method) (c : Code) : Prop :=
  p.tables.exec = Jvm.exec ∧ c.code = cc ∧ meth.sig.returnType = ret ∧ c.maxLocals = nL ∧ s.vm.findClass own = some m.cls ∧ (∀ x ∈ gw, x.before args s = true) ∧ meth.locks = false ∧ fm_K w N s ∧ fm_I w N
-- locals by place
def fm_has (ls : Array Slot) (nL : Nat) (lv : List (Option Value)) : Prop := ls.size = nL ∧ lv_wf ls ∧ lv.length = nL ∧ ∀ (i : Nat) (v : Value), lv[i]? = some (some v) → ls[i]? = some (.val v)
def fm_as (lv : List (Option Value)) : List (Nat × Value) := (List.range lv.length).filterMap (fun i => match lv[i]? with | some (some v) => some (i, v) | _ => none)
theorem fm_as_mem {lv : List (Option Value)} {q : Nat × Value} : q ∈ fm_as lv ↔ lv[q.1]? = some (some q.2) := by
  obtain ⟨i, v⟩ := q
  unfold fm_as
  rw [List.mem_filterMap]
  constructor
  · rintro ⟨j, hj, h⟩
    cases hx : lv[j]? with
    | none => rw [hx] at h; cases h
    | some o =>
      cases o with
      | none => rw [hx] at h; cases h
      | some u => rw [hx] at h; cases h; exact hx
  · intro h
    have hi : i < lv.length := (List.getElem?_eq_some_iff.mp h).1
    refine ⟨i, List.mem_range.mpr hi, ?_⟩
    dsimp only at h
    rw [h]
theorem fm_has.to {ls : Array Slot} {nL : Nat} {lv : List (Option Value)} (h : fm_has ls nL lv) : lv_has ls nL (fm_as lv) := ⟨h.1, h.2.1, fun q hq => h.2.2.2 q.1 q.2 (fm_as_mem.mp hq)⟩
/-- no long stands right before place i -/
def fm_c2 (lv : List (Option Value)) : Nat → Bool
  | 0 => true
  | j + 1 => match lv[j]? with
    | some (some v) => v.category != 2
    | _ => true
theorem fm_has.set {ls ls' : Array Slot} {nL i : Nat} {lv : List (Option Value)} {v : Value} (h : fm_has ls nL lv) (hi : i < nL) (h2 : fm_c2 lv i = true) (h' : lv_has ls' nL ((i, v) :: (fm_as lv).filter (fun q => !(q.1 == i) && !(q.1 + 1 == i && q.2.category == 2)))) : fm_has ls' nL (lv.set i (some v)) := by
  obtain ⟨h1, h3, h4⟩ := h'
  refine ⟨h1, h3, by rw [List.length_set]; exact h.2.2.1, fun j u hj => ?_⟩
  by_cases ej : j = i
  · subst ej
    rw [List.getElem?_set_self (by rw [h.2.2.1]; exact hi)] at hj
    cases hj
    exact h4 (j, v) List.mem_cons_self
  · rw [List.getElem?_set_ne (Ne.symm ej)] at hj
    refine h4 (j, u) (List.mem_cons_of_mem _ (List.mem_filter.mpr ⟨fm_as_mem.mpr hj, ?_⟩))
    simp only [Bool.and_eq_true, Bool.not_eq_true', beq_eq_false_iff_ne, ne_eq, Bool.and_eq_false_iff]
    refine ⟨ej, ?_⟩
    by_cases e1 : j + 1 = i
    · right
      subst e1
      simpa [fm_c2, hj] using h2
    · exact Or.inl e1
theorem fm_has.set2 {ls ls' : Array Slot} {nL i : Nat} {lv : List (Option Value)} {v : Value} (h : fm_has ls nL lv) (hi : i + 1 < nL) (h2 : fm_c2 lv i = true) (h' : lv_has ls' nL ((i, v) :: (fm_as lv).filter (fun q => !(q.1 == i) && (!(q.1 == i + 1) && !(q.1 + 1 == i && q.2.category == 2))))) : fm_has ls' nL ((lv.set i (some v)).set (i + 1) none) := by
  obtain ⟨h1, h3, h4⟩ := h'
  refine ⟨h1, h3, by rw [List.length_set, List.length_set]; exact h.2.2.1, fun j u hj => ?_⟩
  by_cases ek : j = i + 1
  · subst ek
    rw [List.getElem?_set_self (by rw [List.length_set, h.2.2.1]; exact hi)] at hj
    cases hj
  rw [List.getElem?_set_ne (Ne.symm ek)] at hj
  by_cases ej : j = i
  · subst ej
    rw [List.getElem?_set_self (by rw [h.2.2.1]; omega)] at hj
    cases hj
    exact h4 (j, v) List.mem_cons_self
  · rw [List.getElem?_set_ne (Ne.symm ej)] at hj
    refine h4 (j, u) (List.mem_cons_of_mem _ (List.mem_filter.mpr ⟨fm_as_mem.mpr hj, ?_⟩))
    simp only [Bool.and_eq_true, Bool.not_eq_true', beq_eq_false_iff_ne, ne_eq, Bool.and_eq_false_iff]
    refine ⟨ej, ek, ?_⟩
    by_cases e1 : j + 1 = i
    · right
      subst e1
      simpa [fm_c2, hj] using h2
    · exact Or.inl e1
theorem fm_has.weaken {ls : Array Slot} {nL : Nat} {lv lv' : List (Option Value)} (h : fm_has ls nL lv) (hl : lv'.length = nL) (hs : ∀ (i : Nat) (v : Value), lv'[i]? = some (some v) → lv[i]? = some (some v)) : fm_has ls nL lv' := ⟨h.1, h.2.1, hl, fun i v hi => h.2.2.2 i v (hs i v hi)⟩
end
section
/-! rows of the flat machine: an instruction, a row; and the pure combinators -/
def fm_V (w : fm_W) (lay : Nat → fm_L) (N : Nat) (l : Launch) (R : Room) (cc : ByteArray) (nL : Nat) (own : String) (ret : Option FieldType) (o : fm_O) (pc : Nat) (lv : List (Option Value)) (st : List Value) (σ : fm_M) : Prop :=
  ∀ (p : Program) (e : Env) (s : State) (m : MethodId) (args : Array Value) (below : List Frame) (meth : Method) (c : Code), fm_X w N cc nL own ret p s m args meth c → ∀ (H : Heap) (locs : List Loc) (ls : Array Slot), fm_P w lay N σ H → va_S (fm_A w N) s.heap H locs → fm_has ls nL lv →
    W p l e R s m args below meth c H locs 0 0 (MQ below (fm_Q w lay N o) args s 0 0 (fm_A w N)) (F0 m pc ls st)
-- pure words
def fm_in (i : Int32) (n : Nat) : Bool := decide (0 ≤ i.toInt ∧ i.toInt < n)
theorem fm_in_vp {i : Int32} {n : Nat} (h : fm_in i n = true) : vp_in i n := vp_in_iff.mpr (of_decide_eq_true h)
def fm_b (x : Int32) : Bool := decide (x = 0 ∨ x = 1)
theorem fm_b_nar {x : Int32} (h : fm_b x = true) : narrow .boolean (.int x) = .int x ∧ fits .boolean (.int x) = true := by
  rcases of_decide_eq_true h with rfl | rfl <;> exact ⟨by decide, by decide⟩
def fm_ch (x : Int32) : Bool := decide (0 ≤ x.toInt ∧ x.toInt < 65536)
theorem fm_ch_nar {x : Int32} (h : fm_ch x = true) : narrow .char (.int x) = .int x := by
  obtain ⟨h1, h2⟩ := of_decide_eq_true h
  have hx : ¬ x < 0 := by
    intro q
    have := Int32.lt_iff_toInt_lt.mp q
    rw [Int32.toInt_zero] at this
    omega
  obtain ⟨j, hj, rfl⟩ := nI_of hx
  rw [nI_toInt hj] at h2
  exact (pk_charN (by omega)).1
def fm_bd {α β : Type} (o : Option (α × fm_M)) (k : α → fm_M → Option β) : Option β := match o with
  | none => none
  | some q => k q.1 q.2
theorem fm_bds {α β : Type} {o : Option (α × fm_M)} {k : α → fm_M → Option β} {b : β} (h : fm_bd o k = some b) : ∃ (x : α) (σ : fm_M), o = some (x, σ) ∧ k x σ = some b := by
  cases o with
  | none => cases h
  | some q => exact ⟨q.1, q.2, rfl, h⟩
def fm_op {α β : Type} (o : Option α) (k : α → Option β) : Option β := match o with
  | none => none
  | some q => k q
theorem fm_ops {α β : Type} {o : Option α} {k : α → Option β} {b : β} (h : fm_op o k = some b) : ∃ x : α, o = some x ∧ k x = some b := by
  cases o with
  | none => cases h
  | some q => exact ⟨q, rfl, h⟩
def fm_it {S X : Type} (body : S → Option (S ⊕ X)) : Nat → S → Option X
  | 0, _ => none
  | n + 1, s => match body s with
    | none => none
    | some (.inl t) => fm_it body n t
    | some (.inr x) => some x
theorem fm_it_0 {S X : Type} {body : S → Option (S ⊕ X)} {s : S} {x : X} (h : fm_it body 0 s = some x) : False := by cases h
theorem fm_it_s {S X : Type} {body : S → Option (S ⊕ X)} {n : Nat} {s : S} {x : X} (h : fm_it body (n + 1) s = some x) : (∃ t, body s = some (.inl t) ∧ fm_it body n t = some x) ∨ body s = some (.inr x) := by
  unfold fm_it at h
  cases hb : body s with
  | none => rw [hb] at h; cases h
  | some o =>
    rw [hb] at h
    cases o with
    | inl t => exact Or.inl ⟨t, rfl, h⟩
    | inr y => cases h; exact Or.inr rfl
theorem fm_it_loop {S X : Type} {body : S → Option (S ⊕ X)} {P : S → Prop} {K : X → Prop} (hb : ∀ s o, body s = some o → (∀ t, o = .inl t → P t) → (∀ x, o = .inr x → K x) → P s) : ∀ (n : Nat) (s : S) (x : X), fm_it body n s = some x → K x → P s := by
  intro n
  induction n with
  | zero => intro s x h; exact absurd h (fun q => fm_it_0 q)
  | succ n ih =>
    intro s x h hk
    rcases fm_it_s h with ⟨t, h1, h2⟩ | h1
    · exact hb s _ h1 (fun t' e => by cases e; exact ih t x h2 hk) (fun y e => by cases e)
    · exact hb s _ h1 (fun t' e => by cases e) (fun y e => by cases e; exact hk)
theorem fm_ift {b : Bool} {α : Type} {A : Option α} {o : α} (h : (if b = true then A else none) = some o) : b = true ∧ A = some o := by
  by_cases hb : b = true
  · rw [if_pos hb] at h; exact ⟨hb, h⟩
  · rw [if_neg hb] at h; cases h
theorem fm_ifz {y : Int32} {α : Type} {A : Option α} {o : α} (h : (if y = 0 then none else A) = some o) : ¬ y = 0 ∧ A = some o := by
  by_cases hb : y = 0
  · rw [if_pos hb] at h; cases h
  · rw [if_neg hb] at h; exact ⟨hb, h⟩
def fm_fu : Nat := 100000
section FMR
variable {w : fm_W} {lay : Nat → fm_L} {N : Nat} {l : Launch} {R : Room} {cc : ByteArray} {nL : Nat} {own : String} {ret : Option FieldType} {o : fm_O} {pc : Nat} {lv lv' : List (Option Value)} {st : List Value} {σ : fm_M}
theorem v_iconst {n : Int} (v : Int32) (hd : decode cc pc = .ok (.iconst n, 1)) (hv : Int32.ofInt n = v) (k : fm_V w lay N l R cc nL own ret o (pc + 1) lv (.int v :: st) σ) : fm_V w lay N l R cc nL own ret o pc lv st σ := by
  intro p e s m args below meth c X H locs ls hP hS hl
  exact lv_iconst X.1 X.2.1 hd hv (k p e s m args below meth c X H locs ls hP hS hl)
theorem v_bipush {n : Int} (v : Int32) (hd : decode cc pc = .ok (.bipush n, 2)) (hv : (Int8.ofInt n).toInt32 = v) (k : fm_V w lay N l R cc nL own ret o (pc + 2) lv (.int v :: st) σ) : fm_V w lay N l R cc nL own ret o pc lv st σ := by
  intro p e s m args below meth c X H locs ls hP hS hl
  exact lv_bipush X.1 X.2.1 hd hv (k p e s m args below meth c X H locs ls hP hS hl)
theorem v_sipush {n : Int} (v : Int32) (hd : decode cc pc = .ok (.sipush n, 3)) (hv : (Int16.ofInt n).toInt32 = v) (k : fm_V w lay N l R cc nL own ret o (pc + 3) lv (.int v :: st) σ) : fm_V w lay N l R cc nL own ret o pc lv st σ := by
  intro p e s m args below meth c X H locs ls hP hS hl
  exact lv_sipush X.1 X.2.1 hd hv (k p e s m args below meth c X H locs ls hP hS hl)
theorem v_lconst {n : Fin 2} (v : Int64) (hd : decode cc pc = .ok (.lconst n, 1)) (hv : Int64.ofNat (n : Nat) = v) (k : fm_V w lay N l R cc nL own ret o (pc + 1) lv (.long v :: st) σ) : fm_V w lay N l R cc nL own ret o pc lv st σ := by
  intro p e s m args below meth c X H locs ls hP hS hl
  exact lv_lconst X.1 X.2.1 hd hv (k p e s m args below meth c X H locs ls hP hS hl)
theorem v_ldc2 {index : Nat} {v : Int64} (hc : Cond.constantLong own index v ∈ gw) (hd : decode cc pc = .ok (.ldc2_w index, 3)) (k : fm_V w lay N l R cc nL own ret o (pc + 3) lv (.long v :: st) σ) : fm_V w lay N l R cc nL own ret o pc lv st σ := by
  intro p e s m args below meth c X H locs ls hP hS hl
  exact lv_ldc2 X.1 X.2.1 X.2.2.2.2.1 (X.2.2.2.2.2.1 _ hc) hd (k p e s m args below meth c X H locs ls hP hS hl)
theorem v_iload_n {q : Fin 4} (i : Nat) {x : Int32} (hd : decode cc pc = .ok (.iload_n q, 1)) (hi : (q : Nat) = i) (hl : lv[i]? = some (some (.int x))) (k : fm_V w lay N l R cc nL own ret o (pc + 1) lv (.int x :: st) σ) : fm_V w lay N l R cc nL own ret o pc lv st σ := by
  intro p e s m args below meth c X H locs ls hP hS h
  exact lv_iload_n X.1 X.2.1 hd hi (h.2.2.2 _ _ hl) (k p e s m args below meth c X H locs ls hP hS h)
theorem v_iload {i : Nat} {x : Int32} (hd : decode cc pc = .ok (.iload i, 2)) (hl : lv[i]? = some (some (.int x))) (k : fm_V w lay N l R cc nL own ret o (pc + 2) lv (.int x :: st) σ) : fm_V w lay N l R cc nL own ret o pc lv st σ := by
  intro p e s m args below meth c X H locs ls hP hS h
  exact lv_iload X.1 X.2.1 hd (h.2.2.2 _ _ hl) (k p e s m args below meth c X H locs ls hP hS h)
theorem v_lload_n {q : Fin 4} (i : Nat) {x : Int64} (hd : decode cc pc = .ok (.lload_n q, 1)) (hi : (q : Nat) = i) (hl : lv[i]? = some (some (.long x))) (k : fm_V w lay N l R cc nL own ret o (pc + 1) lv (.long x :: st) σ) : fm_V w lay N l R cc nL own ret o pc lv st σ := by
  intro p e s m args below meth c X H locs ls hP hS h
  exact lv_lload_n X.1 X.2.1 hd hi (h.2.2.2 _ _ hl) (k p e s m args below meth c X H locs ls hP hS h)
theorem v_lload {i : Nat} {x : Int64} (hd : decode cc pc = .ok (.lload i, 2)) (hl : lv[i]? = some (some (.long x))) (k : fm_V w lay N l R cc nL own ret o (pc + 2) lv (.long x :: st) σ) : fm_V w lay N l R cc nL own ret o pc lv st σ := by
  intro p e s m args below meth c X H locs ls hP hS h
  exact lv_lload X.1 X.2.1 hd (h.2.2.2 _ _ hl) (k p e s m args below meth c X H locs ls hP hS h)
theorem v_aload_n {q : Fin 4} (i : Nat) {x : Nat} (hd : decode cc pc = .ok (.aload_n q, 1)) (hi : (q : Nat) = i) (hl : lv[i]? = some (some (.ref x))) (k : fm_V w lay N l R cc nL own ret o (pc + 1) lv (.ref x :: st) σ) : fm_V w lay N l R cc nL own ret o pc lv st σ := by
  intro p e s m args below meth c X H locs ls hP hS h
  exact lv_aload_n X.1 X.2.1 hd hi (h.2.2.2 _ _ hl) (k p e s m args below meth c X H locs ls hP hS h)
theorem v_istore_n {q : Fin 4} (i : Nat) {x : Int32} (hd : decode cc pc = .ok (.istore_n q, 1)) (hi : (q : Nat) = i) (hn : i < nL) (h2 : fm_c2 lv i = true) (hl : lv.set i (some (.int x)) = lv') (k : fm_V w lay N l R cc nL own ret o (pc + 1) lv' st σ) : fm_V w lay N l R cc nL own ret o pc lv (.int x :: st) σ := by
  intro p e s m args below meth c X H locs ls hP hS h
  exact lv_istore_n X.1 X.2.1 hd hi h.to hn rfl (fun ls' h' => k p e s m args below meth c X H locs ls' hP hS (hl ▸ h.set hn h2 h'))
theorem v_istore {i : Nat} {x : Int32} (hd : decode cc pc = .ok (.istore i, 2)) (hn : i < nL) (h2 : fm_c2 lv i = true) (hl : lv.set i (some (.int x)) = lv') (k : fm_V w lay N l R cc nL own ret o (pc + 2) lv' st σ) : fm_V w lay N l R cc nL own ret o pc lv (.int x :: st) σ := by
  intro p e s m args below meth c X H locs ls hP hS h
  exact lv_istore X.1 X.2.1 hd h.to hn rfl (fun ls' h' => k p e s m args below meth c X H locs ls' hP hS (hl ▸ h.set hn h2 h'))
theorem v_lstore_n {q : Fin 4} (i : Nat) {x : Int64} (hd : decode cc pc = .ok (.lstore_n q, 1)) (hi : (q : Nat) = i) (hn : i + 1 < nL) (h2 : fm_c2 lv i = true) (hl : (lv.set i (some (.long x))).set (i + 1) none = lv') (k : fm_V w lay N l R cc nL own ret o (pc + 1) lv' st σ) : fm_V w lay N l R cc nL own ret o pc lv (.long x :: st) σ := by
  intro p e s m args below meth c X H locs ls hP hS h
  exact lv_lstore_n X.1 X.2.1 hd hi h.to hn rfl (fun ls' h' => k p e s m args below meth c X H locs ls' hP hS (hl ▸ h.set2 hn h2 h'))
theorem v_lstore {i : Nat} {x : Int64} (hd : decode cc pc = .ok (.lstore i, 2)) (hn : i + 1 < nL) (h2 : fm_c2 lv i = true) (hl : (lv.set i (some (.long x))).set (i + 1) none = lv') (k : fm_V w lay N l R cc nL own ret o (pc + 2) lv' st σ) : fm_V w lay N l R cc nL own ret o pc lv (.long x :: st) σ := by
  intro p e s m args below meth c X H locs ls hP hS h
  exact lv_lstore X.1 X.2.1 hd h.to hn rfl (fun ls' h' => k p e s m args below meth c X H locs ls' hP hS (hl ▸ h.set2 hn h2 h'))
theorem v_iinc {i : Nat} {n : Int} {x : Int32} (v : Int32) (hd : decode cc pc = .ok (.iinc i n, 3)) (hx : lv[i]? = some (some (.int x))) (hv : Int32.ofInt n = v) (hn : i < nL) (h2 : fm_c2 lv i = true) (hl : lv.set i (some (.int (x + v))) = lv') (k : fm_V w lay N l R cc nL own ret o (pc + 3) lv' st σ) : fm_V w lay N l R cc nL own ret o pc lv st σ := by
  intro p e s m args below meth c X H locs ls hP hS h
  subst hv
  obtain ⟨j, hj⟩ := List.getElem?_of_mem (fm_as_mem (q := (i, .int x)).mpr hx)
  exact lv_iinc X.1 X.2.1 hd h.to hj rfl hn rfl (fun ls' h' => k p e s m args below meth c X H locs ls' hP hS (hl ▸ h.set hn h2 h'))
theorem v_iadd {x y : Int32} (hd : decode cc pc = .ok (.iadd, 1)) (k : fm_V w lay N l R cc nL own ret o (pc + 1) lv (.int (x + y) :: st) σ) : fm_V w lay N l R cc nL own ret o pc lv (.int y :: .int x :: st) σ := by
  intro p e s m args below meth c X H locs ls hP hS h
  exact lv_iadd X.1 X.2.1 hd (k p e s m args below meth c X H locs ls hP hS h)
theorem v_isub {x y : Int32} (hd : decode cc pc = .ok (.isub, 1)) (k : fm_V w lay N l R cc nL own ret o (pc + 1) lv (.int (x - y) :: st) σ) : fm_V w lay N l R cc nL own ret o pc lv (.int y :: .int x :: st) σ := by
  intro p e s m args below meth c X H locs ls hP hS h
  exact lv_isub X.1 X.2.1 hd (k p e s m args below meth c X H locs ls hP hS h)
theorem v_imul {x y : Int32} (hd : decode cc pc = .ok (.imul, 1)) (k : fm_V w lay N l R cc nL own ret o (pc + 1) lv (.int (x * y) :: st) σ) : fm_V w lay N l R cc nL own ret o pc lv (.int y :: .int x :: st) σ := by
  intro p e s m args below meth c X H locs ls hP hS h
  exact lv_imul X.1 X.2.1 hd (k p e s m args below meth c X H locs ls hP hS h)
theorem v_iand {x y : Int32} (hd : decode cc pc = .ok (.iand, 1)) (k : fm_V w lay N l R cc nL own ret o (pc + 1) lv (.int (x &&& y) :: st) σ) : fm_V w lay N l R cc nL own ret o pc lv (.int y :: .int x :: st) σ := by
  intro p e s m args below meth c X H locs ls hP hS h
  exact lv_iand X.1 X.2.1 hd (k p e s m args below meth c X H locs ls hP hS h)
theorem v_ior {x y : Int32} (hd : decode cc pc = .ok (.ior, 1)) (k : fm_V w lay N l R cc nL own ret o (pc + 1) lv (.int (x ||| y) :: st) σ) : fm_V w lay N l R cc nL own ret o pc lv (.int y :: .int x :: st) σ := by
  intro p e s m args below meth c X H locs ls hP hS h
  exact lv_ior X.1 X.2.1 hd (k p e s m args below meth c X H locs ls hP hS h)
theorem v_ishl {x y : Int32} (hd : decode cc pc = .ok (.ishl, 1)) (k : fm_V w lay N l R cc nL own ret o (pc + 1) lv (.int (x <<< (y &&& 31)) :: st) σ) : fm_V w lay N l R cc nL own ret o pc lv (.int y :: .int x :: st) σ := by
  intro p e s m args below meth c X H locs ls hP hS h
  exact lv_ishl X.1 X.2.1 hd (k p e s m args below meth c X H locs ls hP hS h)
theorem v_ladd {x y : Int64} (hd : decode cc pc = .ok (.ladd, 1)) (k : fm_V w lay N l R cc nL own ret o (pc + 1) lv (.long (x + y) :: st) σ) : fm_V w lay N l R cc nL own ret o pc lv (.long y :: .long x :: st) σ := by
  intro p e s m args below meth c X H locs ls hP hS h
  exact lv_ladd X.1 X.2.1 hd (k p e s m args below meth c X H locs ls hP hS h)
theorem v_lsub {x y : Int64} (hd : decode cc pc = .ok (.lsub, 1)) (k : fm_V w lay N l R cc nL own ret o (pc + 1) lv (.long (x - y) :: st) σ) : fm_V w lay N l R cc nL own ret o pc lv (.long y :: .long x :: st) σ := by
  intro p e s m args below meth c X H locs ls hP hS h
  exact lv_lsub X.1 X.2.1 hd (k p e s m args below meth c X H locs ls hP hS h)
theorem v_lmul {x y : Int64} (hd : decode cc pc = .ok (.lmul, 1)) (k : fm_V w lay N l R cc nL own ret o (pc + 1) lv (.long (x * y) :: st) σ) : fm_V w lay N l R cc nL own ret o pc lv (.long y :: .long x :: st) σ := by
  intro p e s m args below meth c X H locs ls hP hS h
  exact lv_lmul X.1 X.2.1 hd (k p e s m args below meth c X H locs ls hP hS h)
theorem v_idiv {x y : Int32} (hd : decode cc pc = .ok (.idiv, 1)) (hne : ¬ y = 0) (k : fm_V w lay N l R cc nL own ret o (pc + 1) lv (.int (x / y) :: st) σ) : fm_V w lay N l R cc nL own ret o pc lv (.int y :: .int x :: st) σ := by
  intro p e s m args below meth c X H locs ls hP hS h
  exact lv_idiv X.1 X.2.1 hd hne (k p e s m args below meth c X H locs ls hP hS h)
theorem v_irem {x y : Int32} (hd : decode cc pc = .ok (.irem, 1)) (hne : ¬ y = 0) (k : fm_V w lay N l R cc nL own ret o (pc + 1) lv (.int (x - x / y * y) :: st) σ) : fm_V w lay N l R cc nL own ret o pc lv (.int y :: .int x :: st) σ := by
  intro p e s m args below meth c X H locs ls hP hS h
  exact lv_irem X.1 X.2.1 hd hne (k p e s m args below meth c X H locs ls hP hS h)
theorem v_ldiv {x y : Int64} (hd : decode cc pc = .ok (.ldiv, 1)) (hne : ¬ y = 0) (k : fm_V w lay N l R cc nL own ret o (pc + 1) lv (.long (x / y) :: st) σ) : fm_V w lay N l R cc nL own ret o pc lv (.long y :: .long x :: st) σ := by
  intro p e s m args below meth c X H locs ls hP hS h
  exact lv_ldiv X.1 X.2.1 hd hne (k p e s m args below meth c X H locs ls hP hS h)
theorem v_lrem {x y : Int64} (hd : decode cc pc = .ok (.lrem, 1)) (hne : ¬ y = 0) (k : fm_V w lay N l R cc nL own ret o (pc + 1) lv (.long (x - x / y * y) :: st) σ) : fm_V w lay N l R cc nL own ret o pc lv (.long y :: .long x :: st) σ := by
  intro p e s m args below meth c X H locs ls hP hS h
  exact lv_lrem X.1 X.2.1 hd hne (k p e s m args below meth c X H locs ls hP hS h)
theorem v_i2l {x : Int32} (hd : decode cc pc = .ok (.i2l, 1)) (k : fm_V w lay N l R cc nL own ret o (pc + 1) lv (.long (x.toInt64) :: st) σ) : fm_V w lay N l R cc nL own ret o pc lv (.int x :: st) σ := by
  intro p e s m args below meth c X H locs ls hP hS h
  exact lv_i2l X.1 X.2.1 hd rfl (k p e s m args below meth c X H locs ls hP hS h)
theorem v_l2i {x : Int64} (hd : decode cc pc = .ok (.l2i, 1)) (k : fm_V w lay N l R cc nL own ret o (pc + 1) lv (.int (x.toInt32) :: st) σ) : fm_V w lay N l R cc nL own ret o pc lv (.long x :: st) σ := by
  intro p e s m args below meth c X H locs ls hP hS h
  exact lv_l2i X.1 X.2.1 hd rfl (k p e s m args below meth c X H locs ls hP hS h)
theorem v_i2c {x : Int32} (hd : decode cc pc = .ok (.i2c, 1)) (k : fm_V w lay N l R cc nL own ret o (pc + 1) lv (.int ((x.toUInt32 % 65536).toInt32) :: st) σ) : fm_V w lay N l R cc nL own ret o pc lv (.int x :: st) σ := by
  intro p e s m args below meth c X H locs ls hP hS h
  exact lv_i2c X.1 X.2.1 hd rfl (k p e s m args below meth c X H locs ls hP hS h)
theorem v_dup {a : Value} (hd : decode cc pc = .ok (.dup, 1)) (ha : a.category = 1) (k : fm_V w lay N l R cc nL own ret o (pc + 1) lv (a :: a :: st) σ) : fm_V w lay N l R cc nL own ret o pc lv (a :: st) σ := by
  intro p e s m args below meth c X H locs ls hP hS h
  exact lv_dup X.1 X.2.1 hd ha (k p e s m args below meth c X H locs ls hP hS h)
theorem v_pop {a : Value} (hd : decode cc pc = .ok (.pop, 1)) (ha : a.category = 1) (k : fm_V w lay N l R cc nL own ret o (pc + 1) lv st σ) : fm_V w lay N l R cc nL own ret o pc lv (a :: st) σ := by
  intro p e s m args below meth c X H locs ls hP hS h
  exact lv_pop X.1 X.2.1 hd ha (k p e s m args below meth c X H locs ls hP hS h)
theorem v_dup_x1 {a b : Value} (hd : decode cc pc = .ok (.dup_x1, 1)) (ha : a.category = 1) (hb : b.category = 1) (k : fm_V w lay N l R cc nL own ret o (pc + 1) lv (a :: b :: a :: st) σ) : fm_V w lay N l R cc nL own ret o pc lv (a :: b :: st) σ := by
  intro p e s m args below meth c X H locs ls hP hS h
  exact lv_dup_x1 X.1 X.2.1 hd ha hb (k p e s m args below meth c X H locs ls hP hS h)
theorem v_dup2 {a b : Value} (hd : decode cc pc = .ok (.dup2, 1)) (ha : a.category = 1) (hb : b.category = 1) (k : fm_V w lay N l R cc nL own ret o (pc + 1) lv (a :: b :: a :: b :: st) σ) : fm_V w lay N l R cc nL own ret o pc lv (a :: b :: st) σ := by
  intro p e s m args below meth c X H locs ls hP hS h
  exact lv_dup2_11 X.1 X.2.1 hd ha hb (k p e s m args below meth c X H locs ls hP hS h)
theorem v_goto {off : Int} (tgt : Nat) (hd : decode cc pc = .ok (.goto off, 3)) (ht : (pc : Int) + off = (tgt : Int)) (k : fm_V w lay N l R cc nL own ret o tgt lv st σ) : fm_V w lay N l R cc nL own ret o pc lv st σ := by
  intro p e s m args below meth c X H locs ls hP hS h
  exact lv_goto X.1 X.2.1 hd ht (k p e s m args below meth c X H locs ls hP hS h)
theorem v_if_eq {x : Int32} {off : Int} {α : Type} {A B : Option α} {z : α} (tgt : Nat) (hd : decode cc pc = .ok (.ifCond .eq off, 3)) (ht : (pc : Int) + off = (tgt : Int)) (h : (if x = 0 then A else B) = some z) (kt : A = some z → fm_V w lay N l R cc nL own ret o tgt lv st σ) (kf : B = some z → fm_V w lay N l R cc nL own ret o (pc + 3) lv st σ) : fm_V w lay N l R cc nL own ret o pc lv (.int x :: st) σ := by
  intro p e s m args below meth c X H locs ls hP hS hh
  exact lv_if_eq X.1 X.2.1 hd ht (fun q => kt (by rwa [if_pos q] at h) p e s m args below meth c X H locs ls hP hS hh) (fun q => kf (by rwa [if_neg q] at h) p e s m args below meth c X H locs ls hP hS hh)
theorem v_icmp_eq {x y : Int32} {off : Int} {α : Type} {A B : Option α} {z : α} (tgt : Nat) (hd : decode cc pc = .ok (.if_icmp .eq off, 3)) (ht : (pc : Int) + off = (tgt : Int)) (h : (if x = y then A else B) = some z) (kt : A = some z → fm_V w lay N l R cc nL own ret o tgt lv st σ) (kf : B = some z → fm_V w lay N l R cc nL own ret o (pc + 3) lv st σ) : fm_V w lay N l R cc nL own ret o pc lv (.int y :: .int x :: st) σ := by
  intro p e s m args below meth c X H locs ls hP hS hh
  exact lv_icmp_eq X.1 X.2.1 hd ht (fun q => kt (by rwa [if_pos q] at h) p e s m args below meth c X H locs ls hP hS hh) (fun q => kf (by rwa [if_neg q] at h) p e s m args below meth c X H locs ls hP hS hh)
theorem v_if_lt {x : Int32} {off : Int} {α : Type} {A B : Option α} {z : α} (tgt : Nat) (hd : decode cc pc = .ok (.ifCond .lt off, 3)) (ht : (pc : Int) + off = (tgt : Int)) (h : (if x < 0 then A else B) = some z) (kt : A = some z → fm_V w lay N l R cc nL own ret o tgt lv st σ) (kf : B = some z → fm_V w lay N l R cc nL own ret o (pc + 3) lv st σ) : fm_V w lay N l R cc nL own ret o pc lv (.int x :: st) σ := by
  intro p e s m args below meth c X H locs ls hP hS hh
  exact lv_if_lt X.1 X.2.1 hd ht (fun q => kt (by rwa [if_pos q] at h) p e s m args below meth c X H locs ls hP hS hh) (fun q => kf (by rwa [if_neg q] at h) p e s m args below meth c X H locs ls hP hS hh)
theorem v_icmp_lt {x y : Int32} {off : Int} {α : Type} {A B : Option α} {z : α} (tgt : Nat) (hd : decode cc pc = .ok (.if_icmp .lt off, 3)) (ht : (pc : Int) + off = (tgt : Int)) (h : (if x < y then A else B) = some z) (kt : A = some z → fm_V w lay N l R cc nL own ret o tgt lv st σ) (kf : B = some z → fm_V w lay N l R cc nL own ret o (pc + 3) lv st σ) : fm_V w lay N l R cc nL own ret o pc lv (.int y :: .int x :: st) σ := by
  intro p e s m args below meth c X H locs ls hP hS hh
  exact lv_icmp_lt X.1 X.2.1 hd ht (fun q => kt (by rwa [if_pos q] at h) p e s m args below meth c X H locs ls hP hS hh) (fun q => kf (by rwa [if_neg q] at h) p e s m args below meth c X H locs ls hP hS hh)
theorem v_if_ge {x : Int32} {off : Int} {α : Type} {A B : Option α} {z : α} (tgt : Nat) (hd : decode cc pc = .ok (.ifCond .ge off, 3)) (ht : (pc : Int) + off = (tgt : Int)) (h : (if 0 ≤ x then A else B) = some z) (kt : A = some z → fm_V w lay N l R cc nL own ret o tgt lv st σ) (kf : B = some z → fm_V w lay N l R cc nL own ret o (pc + 3) lv st σ) : fm_V w lay N l R cc nL own ret o pc lv (.int x :: st) σ := by
  intro p e s m args below meth c X H locs ls hP hS hh
  exact lv_if_ge X.1 X.2.1 hd ht (fun q => kt (by rwa [if_pos q] at h) p e s m args below meth c X H locs ls hP hS hh) (fun q => kf (by rwa [if_neg q] at h) p e s m args below meth c X H locs ls hP hS hh)
theorem v_icmp_ge {x y : Int32} {off : Int} {α : Type} {A B : Option α} {z : α} (tgt : Nat) (hd : decode cc pc = .ok (.if_icmp .ge off, 3)) (ht : (pc : Int) + off = (tgt : Int)) (h : (if y ≤ x then A else B) = some z) (kt : A = some z → fm_V w lay N l R cc nL own ret o tgt lv st σ) (kf : B = some z → fm_V w lay N l R cc nL own ret o (pc + 3) lv st σ) : fm_V w lay N l R cc nL own ret o pc lv (.int y :: .int x :: st) σ := by
  intro p e s m args below meth c X H locs ls hP hS hh
  exact lv_icmp_ge X.1 X.2.1 hd ht (fun q => kt (by rwa [if_pos q] at h) p e s m args below meth c X H locs ls hP hS hh) (fun q => kf (by rwa [if_neg q] at h) p e s m args below meth c X H locs ls hP hS hh)
theorem v_if_gt {x : Int32} {off : Int} {α : Type} {A B : Option α} {z : α} (tgt : Nat) (hd : decode cc pc = .ok (.ifCond .gt off, 3)) (ht : (pc : Int) + off = (tgt : Int)) (h : (if 0 < x then A else B) = some z) (kt : A = some z → fm_V w lay N l R cc nL own ret o tgt lv st σ) (kf : B = some z → fm_V w lay N l R cc nL own ret o (pc + 3) lv st σ) : fm_V w lay N l R cc nL own ret o pc lv (.int x :: st) σ := by
  intro p e s m args below meth c X H locs ls hP hS hh
  exact lv_if_gt X.1 X.2.1 hd ht (fun q => kt (by rwa [if_pos q] at h) p e s m args below meth c X H locs ls hP hS hh) (fun q => kf (by rwa [if_neg q] at h) p e s m args below meth c X H locs ls hP hS hh)
theorem v_icmp_gt {x y : Int32} {off : Int} {α : Type} {A B : Option α} {z : α} (tgt : Nat) (hd : decode cc pc = .ok (.if_icmp .gt off, 3)) (ht : (pc : Int) + off = (tgt : Int)) (h : (if y < x then A else B) = some z) (kt : A = some z → fm_V w lay N l R cc nL own ret o tgt lv st σ) (kf : B = some z → fm_V w lay N l R cc nL own ret o (pc + 3) lv st σ) : fm_V w lay N l R cc nL own ret o pc lv (.int y :: .int x :: st) σ := by
  intro p e s m args below meth c X H locs ls hP hS hh
  exact lv_icmp_gt X.1 X.2.1 hd ht (fun q => kt (by rwa [if_pos q] at h) p e s m args below meth c X H locs ls hP hS hh) (fun q => kf (by rwa [if_neg q] at h) p e s m args below meth c X H locs ls hP hS hh)
theorem v_if_le {x : Int32} {off : Int} {α : Type} {A B : Option α} {z : α} (tgt : Nat) (hd : decode cc pc = .ok (.ifCond .le off, 3)) (ht : (pc : Int) + off = (tgt : Int)) (h : (if x ≤ 0 then A else B) = some z) (kt : A = some z → fm_V w lay N l R cc nL own ret o tgt lv st σ) (kf : B = some z → fm_V w lay N l R cc nL own ret o (pc + 3) lv st σ) : fm_V w lay N l R cc nL own ret o pc lv (.int x :: st) σ := by
  intro p e s m args below meth c X H locs ls hP hS hh
  exact lv_if_le X.1 X.2.1 hd ht (fun q => kt (by rwa [if_pos q] at h) p e s m args below meth c X H locs ls hP hS hh) (fun q => kf (by rwa [if_neg q] at h) p e s m args below meth c X H locs ls hP hS hh)
theorem v_icmp_le {x y : Int32} {off : Int} {α : Type} {A B : Option α} {z : α} (tgt : Nat) (hd : decode cc pc = .ok (.if_icmp .le off, 3)) (ht : (pc : Int) + off = (tgt : Int)) (h : (if x ≤ y then A else B) = some z) (kt : A = some z → fm_V w lay N l R cc nL own ret o tgt lv st σ) (kf : B = some z → fm_V w lay N l R cc nL own ret o (pc + 3) lv st σ) : fm_V w lay N l R cc nL own ret o pc lv (.int y :: .int x :: st) σ := by
  intro p e s m args below meth c X H locs ls hP hS hh
  exact lv_icmp_le X.1 X.2.1 hd ht (fun q => kt (by rwa [if_pos q] at h) p e s m args below meth c X H locs ls hP hS hh) (fun q => kf (by rwa [if_neg q] at h) p e s m args below meth c X H locs ls hP hS hh)
theorem v_if_ne {x : Int32} {off : Int} {α : Type} {A B : Option α} {z : α} (tgt : Nat) (hd : decode cc pc = .ok (.ifCond .ne off, 3)) (ht : (pc : Int) + off = (tgt : Int)) (h : (if x = 0 then A else B) = some z) (kt : B = some z → fm_V w lay N l R cc nL own ret o tgt lv st σ) (kf : A = some z → fm_V w lay N l R cc nL own ret o (pc + 3) lv st σ) : fm_V w lay N l R cc nL own ret o pc lv (.int x :: st) σ := by
  intro p e s m args below meth c X H locs ls hP hS hh
  exact lv_if_ne X.1 X.2.1 hd ht (fun q => kt (by rwa [if_neg q] at h) p e s m args below meth c X H locs ls hP hS hh) (fun q => kf (by rwa [if_pos q] at h) p e s m args below meth c X H locs ls hP hS hh)
theorem v_icmp_ne {x y : Int32} {off : Int} {α : Type} {A B : Option α} {z : α} (tgt : Nat) (hd : decode cc pc = .ok (.if_icmp .ne off, 3)) (ht : (pc : Int) + off = (tgt : Int)) (h : (if x = y then A else B) = some z) (kt : B = some z → fm_V w lay N l R cc nL own ret o tgt lv st σ) (kf : A = some z → fm_V w lay N l R cc nL own ret o (pc + 3) lv st σ) : fm_V w lay N l R cc nL own ret o pc lv (.int y :: .int x :: st) σ := by
  intro p e s m args below meth c X H locs ls hP hS hh
  exact lv_icmp_ne X.1 X.2.1 hd ht (fun q => kt (by rwa [if_neg q] at h) p e s m args below meth c X H locs ls hP hS hh) (fun q => kf (by rwa [if_pos q] at h) p e s m args below meth c X H locs ls hP hS hh)
theorem v_tabIn {dflt lo hi : Int} {offs : Array Int} {len : Nat} {x : Int32} {off : Int} (j : Int32) (tgt : Nat) (hd : decode cc pc = .ok (.tableswitch dflt lo hi offs, len)) (hx : x = j) (hj : ¬ j.toInt < lo ∧ ¬ hi < j.toInt ∧ offs[(j.toInt - lo).toNat]? = some off) (ht : (pc : Int) + off = (tgt : Int)) (k : fm_V w lay N l R cc nL own ret o tgt lv st σ) : fm_V w lay N l R cc nL own ret o pc lv (.int x :: st) σ := by
  intro p e s m args below meth c X H locs ls hP hS h
  subst hx
  exact lv_tableIn X.1 X.2.1 hd hj.1 hj.2.1 hj.2.2 ht (k p e s m args below meth c X H locs ls hP hS h)
theorem v_tabOut {dflt lo hi : Int} {offs : Array Int} {len : Nat} {x : Int32} (tgt : Nat) (hd : decode cc pc = .ok (.tableswitch dflt lo hi offs, len)) (hx : x.toInt < lo ∨ hi < x.toInt) (ht : (pc : Int) + dflt = (tgt : Int)) (k : fm_V w lay N l R cc nL own ret o tgt lv st σ) : fm_V w lay N l R cc nL own ret o pc lv (.int x :: st) σ := by
  intro p e s m args below meth c X H locs ls hP hS h
  exact lv_tableOut X.1 X.2.1 hd hx ht (k p e s m args below meth c X H locs ls hP hS h)
theorem v_lookup {dflt : Int} {ps : Array (Int × Int)} {len : Nat} {x : Int32} {off : Int} (tgt : Nat) (hd : decode cc pc = .ok (.lookupswitch dflt ps, len)) (hp : (ps.toList.zip (ps.toList.drop 1)).all (fun (a, next) => a.1 < next.1) = true) (ho : Op.lookupswitch.offset ps.toList dflt x.toInt = off) (ht : (pc : Int) + off = (tgt : Int)) (k : fm_V w lay N l R cc nL own ret o tgt lv st σ) : fm_V w lay N l R cc nL own ret o pc lv (.int x :: st) σ := by
  intro p e s m args below meth c X H locs ls hP hS h
  exact lv_lookup X.1 X.2.1 hd hp ho ht (k p e s m args below meth c X H locs ls hP hS h)
theorem v_lv (hl : lv'.length = nL) (hs : ∀ (i : Nat) (v : Value), lv'[i]? = some (some v) → lv[i]? = some (some v)) (k : fm_V w lay N l R cc nL own ret o pc lv' st σ) : fm_V w lay N l R cc nL own ret o pc lv st σ := by
  intro p e s m args below meth c X H locs ls hP hS h
  exact k p e s m args below meth c X H locs ls hP hS (h.weaken hl hs)
theorem v_iret {x : Int32} (hr : ret = some .int) (ho : o = (some (.int x), σ)) (hd : decode cc pc = .ok (.ireturn, 1)) : fm_V w lay N l R cc nL own ret o pc lv [.int x] σ := by
  intro p e s m args below meth c X H locs ls hP hS h
  subst ho
  have hlocks := X.2.2.2.2.2.2.1
  exact W.iret X.1 X.2.1 (by rw [X.2.2.1, hr]) (fun t ht hW => ⟨rfl, by rw [ht]; exact hP, hS.F ht⟩) hS.2.2 hd
theorem v_zret {x : Int32} {ty : FieldType} (hr : ret = some ty) (hn : narrow ty (.int x) = .int x) (ho : o = (some (.int x), σ)) (hd : decode cc pc = .ok (.ireturn, 1)) : fm_V w lay N l R cc nL own ret o pc lv [.int x] σ := by
  intro p e s m args below meth c X H locs ls hP hS h
  subst ho
  have hlocks := X.2.2.2.2.2.2.1
  exact W.zret X.1 X.2.1 (by rw [X.2.2.1, hr]) hn (fun t ht hW => ⟨rfl, by rw [ht]; exact hP, hS.F ht⟩) hS.2.2 hd
theorem v_vret (hr : ret = none) (ho : o = (none, σ)) (hd : decode cc pc = .ok (.return_, 1)) : fm_V w lay N l R cc nL own ret o pc lv [] σ := by
  intro p e s m args below meth c X H locs ls hP hS h
  subst ho
  have hlocks := X.2.2.2.2.2.2.1
  exact W.vret X.1 X.2.1 (by rw [X.2.2.1, hr]) (fun t ht hW => ⟨rfl, by rw [ht]; exact hP, hS.F ht⟩) hS.2.2 hd
end FMR
end
section
/-! rows of the heap and of calls -/
def fm_gf (own : String) (idx ci k : Nat) : Prop := ∃ (C : String) (T : u_T) (n : Nat), vwCl[ci]? = some (C, T, n) ∧ (∀ x ∈ u_ws C T n, x ∈ gw) ∧ k < n ∧ (Cond.fieldLink own idx (T k).1 (T k).2.1 (T k).2.2.1 ∈ gw ∨ ∃ host : String, Cond.fieldLinkNest own idx (T k).1 (T k).2.1 (T k).2.2.1 host ∈ fm_nest)
def fm_pf (own : String) (idx ci k : Nat) (ty : FieldType) : Prop := ∃ (C : String) (T : u_T) (n : Nat) (ty0 : Nat → FieldType), vwCl[ci]? = some (C, T, n) ∧ (∀ x ∈ u_ws C T n, x ∈ gw) ∧ k < n ∧ (Cond.fieldLink own idx (T k).1 (T k).2.1 (T k).2.2.1 ∈ gw ∨ ∃ host : String, Cond.fieldLinkNest own idx (T k).1 (T k).2.1 (T k).2.2.1 host ∈ fm_nest) ∧ (∀ k, k < n → parseFieldDescriptor (T k).2.2.1 = some (ty0 k)) ∧ (∀ a, a < n → ∀ b, b < n → a ≠ b → (T a).2.1 ≠ (T b).2.1) ∧ (T k).2.2.2 = false ∧ parseFieldDescriptor (T k).2.2.1 = some ty
/-- an int array that can be read: a cell, or the table -/
def fm_rd (lay : Nat → fm_L) (N a n : Nat) : Prop := (a < N ∧ lay a = .inl (0, n)) ∨ (a = 1000 ∧ n = 6)
theorem fm_P.st {w : fm_W} {lay : Nat → fm_L} {N : Nat} {σ : fm_M} {a : Nat} {f : Nat → Int32} {H H1 : Heap} {x : va_E} (hN : N ≤ 1000) (ha : a < N) (hP : fm_P w lay N σ H) (hx : x = fm_ce w lay (fm_st σ a f) a) (h : va_P w.1 vwCl ((fm_ws w lay N σ).set a (fm_ad w a, x)) H1) : fm_P w lay N (fm_st σ a f) H1 := by
  refine ⟨?_, fun j hj => ?_⟩
  · rw [fm_ws_set ha hx] at h; exact h
  · rw [fm_st_ne (by omega)]; exact hP.2 j hj
section FMH
variable {w : fm_W} {lay : Nat → fm_L} {N : Nat} {l : Launch} {R : Room} {cc : ByteArray} {nL : Nat} {own : String} {ret : Option FieldType} {o : fm_O} {pc : Nat} {lv lv' : List (Option Value)} {st : List Value} {σ : fm_M}
theorem v_get {a ci kf idx : Nat} {tm : List (Option Nat)} {q : Option Nat} (hg : fm_gf own idx ci kf) (hy : lay a = .inr (ci, tm)) (ha : a < N) (hk : tm[kf]? = some q) (hd : decode cc pc = .ok (.getfield idx, 3)) (k : fm_V w lay N l R cc nL own ret o (pc + 3) lv (fm_fv (fm_ad w) (σ a) kf q :: st) σ) : fm_V w lay N l R cc nL own ret o pc lv (.ref (fm_ad w a) :: st) σ := by
  intro p e s m args below meth c X H locs ls hP hS h
  obtain ⟨C, T, n, g1, g2, g3, g4⟩ := hg
  have he : (fm_ws w lay N σ)[a]? = some (fm_ad w a, .inr (ci, fm_fl (fm_ad w) (σ a) 0 tm)) := by rw [fm_ws_get ha, fm_ce_obj hy]
  have hv : (fm_fl (fm_ad w) (σ a) 0 tm)[kf]? = some (fm_fv (fm_ad w) (σ a) kf q) := by rw [fm_fl_get, hk, Nat.zero_add]; rfl
  rcases g4 with g4 | ⟨host, g4⟩
  · exact va_get X.1 X.2.1 X.2.2.2.2.2.1 g2 X.2.2.2.2.1 X.2.2.2.2.2.2.2.1.1 hP.1 a he g1 _ g3 (X.2.2.2.2.2.1 _ g4) (fun _ h => h) hv hd (k p e s m args below meth c X H locs ls hP hS h)
  · exact va_getN X.1 X.2.1 X.2.2.2.2.2.1 g2 X.2.2.2.2.1 X.2.2.2.2.2.2.2.1.1 hP.1 a he g1 _ g3 (va_Nw.use rfl (X.2.2.2.2.2.2.2.1.2.1 _ g4)) (fun _ h => h) hv hd (k p e s m args below meth c X H locs ls hP hS h)
theorem v_put {a ci kf idx : Nat} {tm : List (Option Nat)} {ty : FieldType} {x : Int32} (hg : fm_pf own idx ci kf ty) (hy : lay a = .inr (ci, tm)) (ha : a < N) (hk : tm[kf]? = some none) (hn : narrow ty (.int x) = .int x ∧ fits ty (.int x) = true) (hd : decode cc pc = .ok (.putfield idx, 3)) (k : fm_V w lay N l R cc nL own ret o (pc + 3) lv st (fm_up σ a kf x)) : fm_V w lay N l R cc nL own ret o pc lv (.int x :: .ref (fm_ad w a) :: st) σ := by
  intro p e s m args below meth c X H locs ls hP hS h
  obtain ⟨C, T, n, ty0, g1, g2, g3, g4, g5, g6, g7, g8⟩ := hg
  have hI := X.2.2.2.2.2.2.2.2
  have he : (fm_ws w lay N σ)[a]? = some (fm_ad w a, .inr (ci, fm_fl (fm_ad w) (σ a) 0 tm)) := by rw [fm_ws_get ha, fm_ce_obj hy]
  have hlen : kf < (fm_fl (fm_ad w) (σ a) 0 tm).length := by rw [fm_fl_len]; exact (List.getElem?_eq_some_iff.mp hk).1
  have hx : (Sum.inr (ci, (fm_fl (fm_ad w) (σ a) 0 tm).set kf (.int x)) : va_E) = fm_ce w lay (fm_st σ a (upd (σ a) kf x)) a := by rw [fm_ce_obj hy, fm_st_eq, fm_fl_set _ _ _ _ _ hk]
  rcases g4 with g4 | ⟨host, g4⟩
  · exact va_put X.1 X.2.1 X.2.2.2.2.2.1 g2 ty0 g5 g6 X.2.2.2.2.1 X.2.2.2.2.2.2.2.1.1 hP.1 (fm_D hI σ) hS a he g1 _ g3 (X.2.2.2.2.2.1 _ g4) (fun _ h => h) g7 g8 hn.1 hn.2 hlen hd (fun H1 locs1 hP1 _ hS1 => k p e s m args below meth c X H1 locs1 ls (fm_P.st hI.1 ha hP hx hP1) hS1 h)
  · exact va_putN X.1 X.2.1 X.2.2.2.2.2.1 g2 ty0 g5 g6 X.2.2.2.2.1 X.2.2.2.2.2.2.2.1.1 hP.1 (fm_D hI σ) hS a he g1 _ g3 (va_Nw.use rfl (X.2.2.2.2.2.2.2.1.2.1 _ g4)) (fun _ h => h) g7 g8 hn.1 hn.2 hlen hd (fun H1 locs1 hP1 _ hS1 => k p e s m args below meth c X H1 locs1 ls (fm_P.st hI.1 ha hP hx hP1) hS1 h)
theorem v_iald {a n : Nat} {i : Int32} (hr : fm_rd lay N a n) (hi : fm_in i n = true) (hd : decode cc pc = .ok (.iaload, 1)) (k : fm_V w lay N l R cc nL own ret o (pc + 1) lv (.int (σ a i.toNatClampNeg) :: st) σ) : fm_V w lay N l R cc nL own ret o pc lv (.int i :: .ref (fm_ad w a) :: st) σ := by
  intro p e s m args below meth c X H locs ls hP hS h
  rcases hr with ⟨ha, hy⟩ | ⟨rfl, rfl⟩
  · exact va_iald X.1 X.2.1 X.2.2.2.2.2.2.2.1.1 hP.1 a 0 (by rw [fm_ws_get ha, fm_ce_arr hy (by decide)]) rfl (fm_in_vp hi) hd (k p e s m args below meth c X H locs ls hP hS h)
  · have hv : (Value.int (nI i.toNatClampNeg)) = .int (σ 1000 i.toNatClampNeg) := by
      rw [hP.2 _ (Nat.not_le.mp fun q => fm_in_vp hi (Or.inr q))]
    exact va_ti X.1 X.2.1 X.2.2.2.2.2.2.2.1.2.2.2 hS (fm_in_vp hi) hv hd (k p e s m args below meth c X H locs ls hP hS h)
theorem v_alen {a n : Nat} (v : Int32) (hr : fm_rd lay N a n) (hv : Int32.ofNat n = v) (hd : decode cc pc = .ok (.arraylength, 1)) (k : fm_V w lay N l R cc nL own ret o (pc + 1) lv (.int v :: st) σ) : fm_V w lay N l R cc nL own ret o pc lv (.ref (fm_ad w a) :: st) σ := by
  intro p e s m args below meth c X H locs ls hP hS h
  rcases hr with ⟨ha, hy⟩ | ⟨rfl, rfl⟩
  · exact va_alen X.1 X.2.1 X.2.2.2.2.2.2.2.1.1 hP.1 a 0 (by rw [fm_ws_get ha, fm_ce_arr hy (by decide)]) (ty := .int) rfl hv hd (k p e s m args below meth c X H locs ls hP hS h)
  · exact va_tlen X.1 X.2.1 X.2.2.2.2.2.2.2.1.2.2.2 hS hv hd (k p e s m args below meth c X H locs ls hP hS h)
theorem v_clen {a n : Nat} (v : Int32) (ha : a < N) (hy : lay a = .inl (1, n)) (hv : Int32.ofNat n = v) (hd : decode cc pc = .ok (.arraylength, 1)) (k : fm_V w lay N l R cc nL own ret o (pc + 1) lv (.int v :: st) σ) : fm_V w lay N l R cc nL own ret o pc lv (.ref (fm_ad w a) :: st) σ := by
  intro p e s m args below meth c X H locs ls hP hS h
  exact va_alen X.1 X.2.1 X.2.2.2.2.2.2.2.1.1 hP.1 a 1 (by rw [fm_ws_get ha, fm_ce_arr hy (by decide)]) (ty := .char) rfl hv hd (k p e s m args below meth c X H locs ls hP hS h)
theorem v_qlen {a n : Nat} (v : Int32) (ha : a < N) (hy : lay a = .inl (3, n)) (hv : Int32.ofNat n = v) (hd : decode cc pc = .ok (.arraylength, 1)) (k : fm_V w lay N l R cc nL own ret o (pc + 1) lv (.int v :: st) σ) : fm_V w lay N l R cc nL own ret o pc lv (.ref (fm_ad w a) :: st) σ := by
  intro p e s m args below meth c X H locs ls hP hS h
  exact va_alen X.1 X.2.1 X.2.2.2.2.2.2.2.1.1 hP.1 a 3 (by rw [fm_ws_get ha, fm_ce_arq hy]) (ty := .object "SnowSuits$Hall") rfl hv hd (k p e s m args below meth c X H locs ls hP hS h)
theorem v_aald {a n : Nat} {i : Int32} (ha : a < N) (hy : lay a = .inl (3, n)) (hi : fm_in i n = true) (hd : decode cc pc = .ok (.aaload, 1)) (k : fm_V w lay N l R cc nL own ret o (pc + 1) lv (.ref (fm_ad w (a + 1 + 7 * i.toNatClampNeg)) :: st) σ) : fm_V w lay N l R cc nL own ret o pc lv (.int i :: .ref (fm_ad w a) :: st) σ := by
  intro p e s m args below meth c X H locs ls hP hS h
  exact va_aldq (f := fun j => some (fm_ad w (a + 1 + 7 * j))) X.1 X.2.1 X.2.2.2.2.2.2.2.1.1 hP.1 a 3 (by rw [fm_ws_get ha, fm_ce_arq hy]) rfl (fm_in_vp hi) hd (k p e s m args below meth c X H locs ls hP hS h)
theorem v_cald {a n : Nat} {i : Int32} (ha : a < N) (hy : lay a = .inl (1, n)) (hi : fm_in i n = true) (hd : decode cc pc = .ok (.caload, 1)) (k : fm_V w lay N l R cc nL own ret o (pc + 1) lv (.int (σ a i.toNatClampNeg) :: st) σ) : fm_V w lay N l R cc nL own ret o pc lv (.int i :: .ref (fm_ad w a) :: st) σ := by
  intro p e s m args below meth c X H locs ls hP hS h
  exact va_cald X.1 X.2.1 X.2.2.2.2.2.2.2.1.1 hP.1 a 1 (by rw [fm_ws_get ha, fm_ce_arr hy (by decide)]) rfl (fm_in_vp hi) hd (k p e s m args below meth c X H locs ls hP hS h)
theorem v_zald {a n : Nat} {i : Int32} (ha : a < N) (hy : lay a = .inl (2, n)) (hi : fm_in i n = true) (hd : decode cc pc = .ok (.baload, 1)) (k : fm_V w lay N l R cc nL own ret o (pc + 1) lv (.int (σ a i.toNatClampNeg) :: st) σ) : fm_V w lay N l R cc nL own ret o pc lv (.int i :: .ref (fm_ad w a) :: st) σ := by
  intro p e s m args below meth c X H locs ls hP hS h
  exact va_zald X.1 X.2.1 X.2.2.2.2.2.2.2.1.1 hP.1 a 2 (by rw [fm_ws_get ha, fm_ce_arr hy (by decide)]) rfl (fm_in_vp hi) hd (k p e s m args below meth c X H locs ls hP hS h)
theorem v_iast {a n : Nat} {i x : Int32} (ha : a < N) (hy : lay a = .inl (0, n)) (hi : fm_in i n = true) (hd : decode cc pc = .ok (.iastore, 1)) (k : fm_V w lay N l R cc nL own ret o (pc + 1) lv st (fm_up σ a i.toNatClampNeg x)) : fm_V w lay N l R cc nL own ret o pc lv (.int x :: .int i :: .ref (fm_ad w a) :: st) σ := by
  intro p e s m args below meth c X H locs ls hP hS h
  have hI := X.2.2.2.2.2.2.2.2
  refine va_iast X.1 X.2.1 X.2.2.2.2.2.2.2.1.1 hP.1 (fm_D hI σ) hS a 0 (by rw [fm_ws_get ha, fm_ce_arr hy (by decide)]) rfl (fm_in_vp hi) hd (fun H1 locs1 hP1 _ hS1 => k p e s m args below meth c X H1 locs1 ls (fm_P.st hI.1 ha hP ?_ hP1) hS1 h)
  rw [fm_ce_arr hy (by decide), fm_st_eq]
theorem v_cast {a n : Nat} {i x : Int32} (ha : a < N) (hy : lay a = .inl (1, n)) (hi : fm_in i n = true) (hd : decode cc pc = .ok (.castore, 1)) (k : fm_V w lay N l R cc nL own ret o (pc + 1) lv st (fm_up σ a i.toNatClampNeg (vp_nar .char x))) : fm_V w lay N l R cc nL own ret o pc lv (.int x :: .int i :: .ref (fm_ad w a) :: st) σ := by
  intro p e s m args below meth c X H locs ls hP hS h
  have hI := X.2.2.2.2.2.2.2.2
  refine va_cast X.1 X.2.1 X.2.2.2.2.2.2.2.1.1 hP.1 (fm_D hI σ) hS a 1 (by rw [fm_ws_get ha, fm_ce_arr hy (by decide)]) rfl (fm_in_vp hi) hd (fun H1 locs1 hP1 _ hS1 => k p e s m args below meth c X H1 locs1 ls (fm_P.st hI.1 ha hP ?_ hP1) hS1 h)
  rw [fm_ce_arr hy (by decide), fm_st_eq]
theorem v_zast {a n : Nat} {i x : Int32} (ha : a < N) (hy : lay a = .inl (2, n)) (hi : fm_in i n = true) (hd : decode cc pc = .ok (.bastore, 1)) (k : fm_V w lay N l R cc nL own ret o (pc + 1) lv st (fm_up σ a i.toNatClampNeg (vp_nar .boolean x))) : fm_V w lay N l R cc nL own ret o pc lv (.int x :: .int i :: .ref (fm_ad w a) :: st) σ := by
  intro p e s m args below meth c X H locs ls hP hS h
  have hI := X.2.2.2.2.2.2.2.2
  refine va_zast X.1 X.2.1 X.2.2.2.2.2.2.2.1.1 hP.1 (fm_D hI σ) hS a 2 (by rw [fm_ws_get ha, fm_ce_arr hy (by decide)]) rfl (fm_in_vp hi) hd (fun H1 locs1 hP1 _ hS1 => k p e s m args below meth c X H1 locs1 ls (fm_P.st hI.1 ha hP ?_ hP1) hS1 h)
  rw [fm_ce_arr hy (by decide), fm_st_eq]
def fm_cpw (own : String) (idx : Nat) : Prop := Cond.methodLink own idx arraycopyName ∈ gw ∧ Cond.native arraycopyName ∈ gw ∧ Cond.static arraycopyName ∈ gw ∧ Cond.initialized "java/lang/System" ∈ gw
theorem v_copy {a b n0 n1 idx : Nat} (sp dp n : Nat) (hw : fm_cpw own idx) (hb : b < N) (ha : a < N) (hyb : lay b = .inl (0, n0)) (hya : lay a = .inl (0, n1)) (hs : sp + n ≤ n0) (hq : dp + n ≤ n1) (hz : n0 < 2 ^ 31 ∧ n1 < 2 ^ 31) {xs xd xn : Int32} (es : nI sp = xs) (ed : nI dp = xd) (en : nI n = xn) (hR : 1 ≤ R.frames ∧ (st.map fun v => v.category).sum + (nativeFrameWords "java/lang/System" "arraycopy" 5 + 11) ≤ R.locals) (hd : decode cc pc = .ok (.invokestatic idx, 3)) (k : fm_V w lay N l R cc nL own ret o (pc + 3) lv st (fm_cp σ b sp a dp n)) : fm_V w lay N l R cc nL own ret o pc lv (.int xn :: .int xd :: .ref (fm_ad w a) :: .int xs :: .ref (fm_ad w b) :: st) σ := by
  intro p e s m args below meth c X H locs ls hP hS h
  have hI := X.2.2.2.2.2.2.2.2
  subst es; subst ed; subst en
  have c1 : (nI sp).toNatClampNeg = sp := nI_clamp (by omega)
  have c2 : (nI dp).toNatClampNeg = dp := nI_clamp (by omega)
  have c3 : (nI n).toNatClampNeg = n := nI_clamp (by omega)
  refine va_copyi (ty := .int) X.1 X.2.1 (by rw [X.2.2.2.1, h.1]) X.2.2.2.2.1 (X.2.2.2.2.2.1 _ hw.1) (X.2.2.2.2.2.1 _ hw.2.1) (X.2.2.2.2.2.1 _ hw.2.2.1) (X.2.2.2.2.2.1 _ hw.2.2.2) X.2.2.2.2.2.2.2.1.1 hP.1 (fm_D hI σ) hS b a 0 0 (by rw [fm_ws_get hb, fm_ce_arr hyb (by decide)]) (by rw [fm_ws_get ha, fm_ce_arr hya (by decide)]) rfl rfl rfl (nI_pos (by omega)) (nI_pos (by omega)) (nI_pos (by omega)) (by rw [c1, c3]; exact hs) (by rw [c2, c3]; exact hq) (fun _ _ => rfl) hR.1 hR.2 hd (fun H1 locs1 hP1 _ hS1 => k p e s m args below meth c X H1 locs1 ls (fm_P.st hI.1 ha hP ?_ hP1) hS1 h)
  rw [fm_ce_arr hya (by decide), fm_st_eq, c1, c2, c3]
theorem v_gets {idx : Nat} (hl : Cond.fieldLink own idx "SnowSuits" "BY_NUMBER" "[I" ∈ gw) (hd : decode cc pc = .ok (.getstatic idx, 3)) (k : fm_V w lay N l R cc nL own ret o (pc + 3) lv (.ref (fm_ad w 1000) :: st) σ) : fm_V w lay N l R cc nL own ret o pc lv st σ := by
  intro p e s m args below meth c X H locs ls hP hS h
  exact va_gets X.1 X.2.1 X.2.2.2.2.2.2.2.1.2.2.1 hS X.2.2.2.2.1 (X.2.2.2.2.2.1 _ hl) (fun _ h => h) hd (k p e s m args below meth c X H locs ls hP hS h)
def fm_mmw (own : String) (idx : Nat) (y : MethodName) (b : ByteArray) : Prop := Cond.methodLink own idx y ∈ gw ∧ Cond.static y ∈ gw ∧ Cond.initialized "java/lang/Math" ∈ gw ∧ Cond.code y b 2 (some .int) ∈ gw
theorem v_mmin {idx : Nat} {x y : Int32} (hw : fm_mmw own idx Lib.Math.min.name Lib.Math.min.code) (hR : 1 ≤ R.frames ∧ (st.map fun v => v.category).sum + 13 ≤ R.locals) (hd : decode cc pc = .ok (.invokestatic idx, 3)) (k : fm_V w lay N l R cc nL own ret o (pc + 3) lv (.int (if y < x then y else x) :: st) σ) : fm_V w lay N l R cc nL own ret o pc lv (.int y :: .int x :: st) σ := by
  intro p e s m args below meth c X H locs ls hP hS h
  exact va_mmin X.1 X.2.1 (by rw [X.2.2.2.1, h.1]) X.2.2.2.2.1 (X.2.2.2.2.2.1 _ hw.1) (X.2.2.2.2.2.1 _ hw.2.1) (X.2.2.2.2.2.1 _ hw.2.2.1) (X.2.2.2.2.2.1 _ hw.2.2.2) hR.1 hR.2 (Nat.zero_le _) (Nat.zero_le _) hd (k p e s m args below meth c X H locs ls hP hS h)
theorem v_mmax {idx : Nat} {x y : Int32} (hw : fm_mmw own idx Lib.Math.max.name Lib.Math.max.code) (hR : 1 ≤ R.frames ∧ (st.map fun v => v.category).sum + 13 ≤ R.locals) (hd : decode cc pc = .ok (.invokestatic idx, 3)) (k : fm_V w lay N l R cc nL own ret o (pc + 3) lv (.int (if x < y then y else x) :: st) σ) : fm_V w lay N l R cc nL own ret o pc lv (.int y :: .int x :: st) σ := by
  intro p e s m args below meth c X H locs ls hP hS h
  exact va_mmax X.1 X.2.1 (by rw [X.2.2.2.1, h.1]) X.2.2.2.2.1 (X.2.2.2.2.2.1 _ hw.1) (X.2.2.2.2.2.1 _ hw.2.1) (X.2.2.2.2.2.1 _ hw.2.2.1) (X.2.2.2.2.2.1 _ hw.2.2.2) hR.1 hR.2 (Nat.zero_le _) (Nat.zero_le _) hd (k p e s m args below meth c X H locs ls hP hS h)
end FMH
section FMC
variable {p : Program} {l : Launch} {e : Env} {R : Room} {s : State} {m : MethodId} {args : Array Value} {below : List Frame} {meth : Method} {c : Code} {H : Heap} {locs : List Loc} {cells slots : Nat} {Q : State → Prop}
theorem fm_Pc.blind {w : fm_W} {lay : Nat → fm_L} {N : Nat} {as : List Value} {σ : fm_M} : FrameBlind (fm_Pc w lay N as σ) := fun a U g mk h => ⟨h.1, h.2.1, h.2.2.calling⟩
theorem fm_call {w : fm_W} {lay : Nat → fm_L} {N : Nat} {o : fm_O} {pc : Nat} {ls : Array Slot} {rest st0 : List Value} {a : Array Value} {H0 : Heap} (hr : va_Run p l e R s m args below meth c H locs cells slots 0 0 (F0 m pc ls st0) rest (fm_Q w lay N o a) (fm_A w N)) (hS : va_S (fm_A w N) H0 H locs)
    (kk : ∀ (H1 : Heap) (locs1 : List Loc), fm_P w lay N o.2 H1 → va_S (fm_A w N) H0 H1 locs1 → W p l e R s m args below meth c H1 locs1 cells slots Q (F0 m (pc + 3) ls (o.1.toList ++ rest))) : W p l e R s m args below meth c H locs cells slots Q (F0 m pc ls st0) := by
  intro T hT X
  obtain ⟨v, st₀, t, T', L, h0, X', hL, e1, e2, ⟨hv, hp, hz, hk⟩, st⟩ := hr T hT X
  cases hv
  rw [h0] at hz hk
  obtain ⟨t2, a1, b1⟩ := kk T'.heap (locs ++ L) (by rw [e1]; exact hp)
    ⟨Nat.le_trans hS.1 (by rw [e1]; exact hz), fun q h1 h2 => by rw [e1, hk q (Nat.lt_of_lt_of_le h1 hS.1) h2]; exact hS.2.1 q h1 h2, fun q hq => by
      rcases List.mem_append.mp hq with h | h
      · exact hS.2.2 q h
      · exact hL q h⟩ T' rfl X'
  exact ⟨t2, st t2 a1, b1⟩
end FMC
/-- a call's words -/
def fm_lw (own : String) (idx : Nat) (y : MethodName) (cc : ByteArray) (nL : Nat) (ret : Option FieldType) (n : Nat) : Prop := Cond.code y cc nL ret ∈ gw ∧ Cond.initialized y.cls ∈ gw ∧ Cond.methodLink own idx y ∈ gw ∧ (y.cls ≠ "java/lang/invoke/MethodHandle" ∧ y.cls ≠ "java/lang/invoke/VarHandle" ∧ (parseMethodDescriptor y.desc).map (fun d => d.parameters.length) = some n)
def fm_lV (own : String) (idx : Nat) (y : MethodName) (cc : ByteArray) (nL : Nat) (ret : Option FieldType) (n ci : Nat) : Prop := fm_lw own idx y cc nL ret n ∧ Cond.instanceMethod y ∈ gw ∧ Cond.selects y.cls y y ∈ gw ∧ ∃ (T : u_T) (k : Nat), vwCl[ci]? = some (y.cls, T, k)
def fm_lS (own : String) (idx : Nat) (y : MethodName) (cc : ByteArray) (nL : Nat) (ret : Option FieldType) (n : Nat) : Prop := fm_lw own idx y cc nL ret n ∧ Cond.static y ∈ gw
section FMK
variable {w : fm_W} {lay : Nat → fm_L} {N : Nat} {l : Launch} {R : Room} {cc : ByteArray} {nL : Nat} {own : String} {ret : Option FieldType} {o : fm_O} {pc : Nat} {lv lv' : List (Option Value)} {st : List Value} {σ : fm_M}
theorem v_callV {idx : Nat} {y : MethodName} {c2 : ByteArray} {nL2 n ci b : Nat} {ret2 : Option FieldType} {rm : Room} {As rest : List Value} {tm : List (Option Nat)} {o2 : fm_O} (hL : fm_lV own idx y c2 nL2 ret2 n ci) (hC : fm_C w lay N l y c2 nL2 ret2 rm (.ref (fm_ad w b) :: As) σ o2) (hy : lay b = .inr (ci, tm)) (hb : b < N) (hn : As.length = n) (hst : st = As.reverse ++ .ref (fm_ad w b) :: rest) (hR : rm.cells = 0 ∧ rm.slots = 0 ∧ rm.frames + 1 ≤ R.frames ∧ 8 + (nL2 + 11) + rm.locals ≤ R.locals) (hW : (rest.map fun v => v.category).sum ≤ 8) (hd : decode cc pc = .ok (.invokevirtual idx, 3)) (k : fm_V w lay N l R cc nL own ret o (pc + 3) lv (o2.1.toList ++ rest) o2.2) : fm_V w lay N l R cc nL own ret o pc lv st σ := by
  intro p e s m args below meth c X H locs ls hP hS h
  obtain ⟨⟨w1, w2, w3, w4⟩, w5, w6, T, kn, w7⟩ := hL
  have hg := X.2.2.2.2.2.1
  have hCB : CallB R s args own idx y c2 nL2 ret2 (.code y c2 nL2 ret2 :: gw) rm 0 0 n := callB_of (Ts := gw) n hg (gw_good w1 (fun _ h => h)) rfl hR.1 hR.2.1 (hg _ w2) (hg _ w3) w4 hR.2.2
  have he : (fm_ws w lay N σ)[b]? = some (fm_ad w b, .inr (ci, fm_fl (fm_ad w) (σ b) 0 tm)) := by rw [fm_ws_get hb, fm_ce_obj hy]
  exact fm_call (va_runV (Ts := gw) (C := y.cls) (As := As) (rest := rest) ⟨X.1, X.2.1, X.2.2.2.1, X.2.2.2.2.1, hg⟩ hC ⟨hCB, hg _ w5, hg _ w6⟩ ⟨fm_Pc.blind, va_recv X.2.2.2.2.2.2.2.1.1 hP.1 w7 he, fun U hU hW => ⟨rfl, by rw [hU]; exact hP, X.2.2.2.2.2.2.2.1.on hS hU hW⟩⟩ rfl hn h.1 hst (lv_room hW) hd ⟨by rw [Nat.zero_add]; exact Nat.zero_le _, by rw [Nat.zero_add]; exact Nat.zero_le _⟩) hS (fun H1 locs1 hP1 hS1 => k p e s m args below meth c X H1 locs1 ls hP1 hS1 h)
theorem v_callS {idx : Nat} {y : MethodName} {c2 : ByteArray} {nL2 n : Nat} {ret2 : Option FieldType} {rm : Room} {As rest : List Value} {o2 : fm_O} (hL : fm_lS own idx y c2 nL2 ret2 n) (hC : fm_C w lay N l y c2 nL2 ret2 rm As σ o2) (hn : As.length = n) (hst : st = As.reverse ++ rest) (hR : rm.cells = 0 ∧ rm.slots = 0 ∧ rm.frames + 1 ≤ R.frames ∧ 8 + (nL2 + 11) + rm.locals ≤ R.locals) (hW : (rest.map fun v => v.category).sum ≤ 8) (hd : decode cc pc = .ok (.invokestatic idx, 3)) (k : fm_V w lay N l R cc nL own ret o (pc + 3) lv (o2.1.toList ++ rest) o2.2) : fm_V w lay N l R cc nL own ret o pc lv st σ := by
  intro p e s m args below meth c X H locs ls hP hS h
  obtain ⟨⟨w1, w2, w3, w4⟩, w5⟩ := hL
  have hg := X.2.2.2.2.2.1
  have hCB : CallB R s args own idx y c2 nL2 ret2 (.code y c2 nL2 ret2 :: gw) rm 0 0 n := callB_of (Ts := gw) n hg (gw_good w1 (fun _ h => h)) rfl hR.1 hR.2.1 (hg _ w2) (hg _ w3) w4 hR.2.2
  exact fm_call (va_runS (Ts := gw) (As := As) (rest := rest) ⟨X.1, X.2.1, X.2.2.2.1, X.2.2.2.2.1, hg⟩ hC ⟨hCB, hg _ w5⟩ ⟨fm_Pc.blind, fun U hU hW => ⟨rfl, by rw [hU]; exact hP, X.2.2.2.2.2.2.2.1.on hS hU hW⟩⟩ rfl hn h.1 hst (lv_room hW) hd ⟨by rw [Nat.zero_add]; exact Nat.zero_le _, by rw [Nat.zero_add]; exact Nat.zero_le _⟩) hS (fun H1 locs1 hP1 hS1 => k p e s m args below meth c X H1 locs1 ls hP1 hS1 h)
/-- a contract out of a walk -/
theorem fm_ofV {y : MethodName} {rm : Room} {as : List Value} (hI : fm_I w N) (hy : plainName y.cls = true) (hc : ∀ v ∈ as, v.category = 1) (hn : as.length ≤ nL) (hV : fm_V w lay N l rm cc nL y.cls ret o 0 (as.map some ++ List.replicate (nL - as.length) none) [] σ) : fm_C w lay N l y cc nL ret rm as σ o := by
  refine Met.ofW (cc := cc) (maxL := nL) (ret := ret) hy rfl ?_
  intro p e s m args below meth c s₁ B hml hv
  obtain ⟨rfl, hP, hK⟩ := hv
  have hts := atoms_spec (ws := .code y cc nL ret :: gw) B.pre
  have hsl : ∀ (vs : List Value), (∀ v ∈ vs, v.category = 1) → (lg_sl vs).length = vs.length := by
    intro vs
    induction vs with
    | nil => intro _; rfl
    | cons v t ih =>
      intro h
      have h1 := h v List.mem_cons_self
      simp only [lg_sl, List.flatMap_cons, List.length_append, List.length_cons] at ih ⊢
      rw [ih (fun u hu => h u (List.mem_cons_of_mem _ hu))]
      simp [h1]; omega
  have hla : ∀ (vs : List Value) (j : Nat), (∀ v ∈ vs, v.category = 1) → ∀ (i : Nat) (v : Value), vs[i]? = some v → (j + i, v) ∈ lv_args j vs := by
    intro vs
    induction vs with
    | nil => intro j _ i v h; simp at h
    | cons u t ih =>
      intro j h i v hi
      have h1 := h u List.mem_cons_self
      cases i with
      | zero => simp at hi; subst hi; simp [lv_args]
      | succ i =>
        simp at hi
        have h2 := ih (j + 1) (fun x hx => h x (List.mem_cons_of_mem _ hx)) i v hi
        simp only [lv_args, h1]
        rw [show j + (i + 1) = j + 1 + i by omega]
        exact List.mem_cons_of_mem _ (by simpa using h2)
  rw [lg_entry_eq]
  have hl := lv_entry as (n := nL) (by rw [hsl as hc]; exact hn)
  refine hV p e s m as.toArray below meth c ⟨B.exec, B.bytes, B.returns, hml, findClass_of_methodNamed B.named, fun x hx => hts x (List.mem_cons_of_mem _ hx), B.notSynchronized, hK, hI⟩ s.heap [] _ hP va_S.rf ⟨hl.1, hl.2.1, by simp; omega, fun i v hi => ?_⟩
  have hi' : as[i]? = some v := by
    by_cases hq : i < as.length
    · rw [List.getElem?_append_left (by simpa using hq), List.getElem?_map] at hi
      cases hx : as[i]? with
      | none => rw [hx] at hi; cases hi
      | some u => rw [hx] at hi; cases hi; rfl
    · rw [List.getElem?_append_right (by simpa using hq), List.getElem?_replicate] at hi
      split at hi <;> cases hi
  have := hl.2.2 _ (hla as 0 hc i v hi')
  simpa using this
end FMK
end
section
/-! the rows as the program that lays the walks uses them -/
def fm_le : List (Option Value) → List (Option Value) → Prop
  | [], _ => True
  | none :: a, _ :: b => fm_le a b
  | some v :: a, x :: b => x = some v ∧ fm_le a b
  | _ :: _, [] => False
theorem fm_le_get : ∀ {a b : List (Option Value)}, fm_le a b → ∀ (i : Nat) (v : Value), a[i]? = some (some v) → b[i]? = some (some v)
  | [], _, _, i, v, h => by simp at h
  | none :: a, x :: b, h, 0, v, hi => by simp at hi
  | none :: a, x :: b, h, i + 1, v, hi => by
    rw [List.getElem?_cons_succ] at hi ⊢
    exact fm_le_get (a := a) (b := b) h i v hi
  | some u :: a, x :: b, h, 0, v, hi => by
    have h1 : x = some u := h.1
    rw [List.getElem?_cons_zero] at hi ⊢
    rw [h1]
    exact hi
  | some u :: a, x :: b, h, i + 1, v, hi => by
    rw [List.getElem?_cons_succ] at hi ⊢
    exact fm_le_get (a := a) (b := b) h.2 i v hi
  | none :: a, [], h, _, _, _ => h.elim
  | some u :: a, [], h, _, _, _ => h.elim
section FMG
variable {w : fm_W} {lay : Nat → fm_L} {N : Nat} {l : Launch} {R : Room} {cc : ByteArray} {nL : Nat} {own : String} {ret : Option FieldType} {o : fm_O} {pc : Nat} {lv : List (Option Value)} {st : List Value} {σ σ2 : fm_M}
theorem v_lw (lv' : List (Option Value)) (hl : lv'.length = nL) (hs : fm_le lv' lv) (k : fm_V w lay N l R cc nL own ret o pc lv' st σ) : fm_V w lay N l R cc nL own ret o pc lv st σ := v_lv hl (fm_le_get hs) k
theorem v_geti {a ci kf idx : Nat} {tm : List (Option Nat)} (hg : fm_gf own idx ci kf) (hy : lay a = .inr (ci, tm)) (ha : a < N) (hk : tm[kf]? = some none) (hd : decode cc pc = .ok (.getfield idx, 3)) (k : fm_V w lay N l R cc nL own ret o (pc + 3) lv (.int (σ a kf) :: st) σ) : fm_V w lay N l R cc nL own ret o pc lv (.ref (fm_ad w a) :: st) σ := v_get hg hy ha hk hd k
theorem v_getr {a ci kf idx : Nat} (b : Nat) {tm : List (Option Nat)} (hg : fm_gf own idx ci kf) (hy : lay a = .inr (ci, tm)) (ha : a < N) (hk : tm[kf]? = some (some b)) (hd : decode cc pc = .ok (.getfield idx, 3)) (k : fm_V w lay N l R cc nL own ret o (pc + 3) lv (.ref (fm_ad w b) :: st) σ) : fm_V w lay N l R cc nL own ret o pc lv (.ref (fm_ad w a) :: st) σ := v_get hg hy ha hk hd k
theorem v_cVi {idx : Nat} {y : MethodName} {c2 : ByteArray} {nL2 n ci b : Nat} {ret2 : Option FieldType} {rm : Room} (As rest : List Value) {tm : List (Option Nat)} {r : Int32} (hL : fm_lV own idx y c2 nL2 ret2 n ci) (hC : fm_C w lay N l y c2 nL2 ret2 rm (.ref (fm_ad w b) :: As) σ (some (.int r), σ2)) (hy : lay b = .inr (ci, tm)) (hb : b < N) (hn : As.length = n) (hst : st = As.reverse ++ .ref (fm_ad w b) :: rest) (hR : rm.cells = 0 ∧ rm.slots = 0 ∧ rm.frames + 1 ≤ R.frames ∧ 8 + (nL2 + 11) + rm.locals ≤ R.locals) (hW : (rest.map fun v => v.category).sum ≤ 8) (hd : decode cc pc = .ok (.invokevirtual idx, 3)) (k : fm_V w lay N l R cc nL own ret o (pc + 3) lv (.int r :: rest) σ2) : fm_V w lay N l R cc nL own ret o pc lv st σ := v_callV hL hC hy hb hn hst hR hW hd k
theorem v_cVv {idx : Nat} {y : MethodName} {c2 : ByteArray} {nL2 n ci b : Nat} {ret2 : Option FieldType} {rm : Room} (As rest : List Value) {tm : List (Option Nat)} (hL : fm_lV own idx y c2 nL2 ret2 n ci) (hC : fm_C w lay N l y c2 nL2 ret2 rm (.ref (fm_ad w b) :: As) σ (none, σ2)) (hy : lay b = .inr (ci, tm)) (hb : b < N) (hn : As.length = n) (hst : st = As.reverse ++ .ref (fm_ad w b) :: rest) (hR : rm.cells = 0 ∧ rm.slots = 0 ∧ rm.frames + 1 ≤ R.frames ∧ 8 + (nL2 + 11) + rm.locals ≤ R.locals) (hW : (rest.map fun v => v.category).sum ≤ 8) (hd : decode cc pc = .ok (.invokevirtual idx, 3)) (k : fm_V w lay N l R cc nL own ret o (pc + 3) lv rest σ2) : fm_V w lay N l R cc nL own ret o pc lv st σ := v_callV hL hC hy hb hn hst hR hW hd k
theorem v_cSi {idx : Nat} {y : MethodName} {c2 : ByteArray} {nL2 n : Nat} {ret2 : Option FieldType} {rm : Room} (As rest : List Value) {r : Int32} (hL : fm_lS own idx y c2 nL2 ret2 n) (hC : fm_C w lay N l y c2 nL2 ret2 rm As σ (some (.int r), σ2)) (hn : As.length = n) (hst : st = As.reverse ++ rest) (hR : rm.cells = 0 ∧ rm.slots = 0 ∧ rm.frames + 1 ≤ R.frames ∧ 8 + (nL2 + 11) + rm.locals ≤ R.locals) (hW : (rest.map fun v => v.category).sum ≤ 8) (hd : decode cc pc = .ok (.invokestatic idx, 3)) (k : fm_V w lay N l R cc nL own ret o (pc + 3) lv (.int r :: rest) σ2) : fm_V w lay N l R cc nL own ret o pc lv st σ := v_callS hL hC hn hst hR hW hd k
theorem fm_of {y : MethodName} {rm : Room} {as : List Value} (hI : fm_I w N) (hy : plainName y.cls = true) (hc : (as.all fun v => v.category == 1) = true) (hn : as.length ≤ nL) (hV : fm_V w lay N l rm cc nL y.cls ret o 0 (as.map some ++ List.replicate (nL - as.length) none) [] σ) : fm_C w lay N l y cc nL ret rm as σ o :=
  fm_ofV hI hy (fun v hv => by simpa using List.all_eq_true.mp hc v hv) hn hV
/-- System.arraycopy out of the class's table -/
theorem v_copyT {a n1 idx : Nat} (hw : fm_cpw own idx) (ha : a < N) (hya : lay a = .inl (0, n1)) (hq : 6 ≤ n1) (hz : n1 < 2 ^ 31) {xs xd xn : Int32} (es : nI 0 = xs) (ed : nI 0 = xd) (en : nI 6 = xn) (hR : 1 ≤ R.frames ∧ (st.map fun v => v.category).sum + (nativeFrameWords "java/lang/System" "arraycopy" 5 + 11) ≤ R.locals) (hd : decode cc pc = .ok (.invokestatic idx, 3)) (k : fm_V w lay N l R cc nL own ret o (pc + 3) lv st (fm_cp σ 1000 0 a 0 6)) : fm_V w lay N l R cc nL own ret o pc lv (.int xn :: .int xd :: .ref (fm_ad w a) :: .int xs :: .ref (fm_ad w 1000) :: st) σ := by
  intro p e s m args below meth c X H locs ls hP hS h
  subst es; subst ed; subst en
  have hI := X.2.2.2.2.2.2.2.2
  have hD := fm_D (lay := lay) hI σ
  have hg := X.2.2.2.2.2.1
  have hK := X.2.2.2.2.2.2.2.1.1
  have ha1 : (fm_ws w lay N σ)[a]? = some (fm_ad w a, .inl (w.2.1 0, n1, .inl (σ a))) := by rw [fm_ws_get ha, fm_ce_arr hya (by decide)]
  have ht1 : (fm_ty w)[0]? = some (w.2.1 0, .int) := rfl
  intro T hT Y
  obtain ⟨scr, t1, t2, t3, t4, t5, t6, t7⟩ := X.2.2.2.2.2.2.2.1.2.2.2
  have hbl : fm_ad w 1000 < s.heap.size := (Array.getElem?_eq_some_iff.mp t1).1
  have hc0 : H[fm_ad w 1000]? = some scr := by rw [hS.2.1 _ hbl t7]; exact t1
  have hc1 : H[fm_ad w a]? = some (vp_cell (w.2.1 0) (n1, .inl (σ a))) := hP.1 a _ ha1
  obtain ⟨hs6, k0, hk0, cm0, hkk0⟩ := t2
  obtain ⟨-, k1, hk1, cm1, hkk1⟩ := (hK.2 0 _ ht1).1 n1 (fun j => .int (σ a j))
  have z0 : (nI 0).toNatClampNeg = 0 := nI_clamp (by decide)
  have z6 : (nI 6).toNatClampNeg = 6 := nI_clamp (by decide)
  have i0 : (nI 0).toInt = 0 := nI_toInt (n := 0) (by decide)
  have i6 : (nI 6).toInt = 6 := nI_toInt (n := 6) (by decide)
  obtain ⟨vm', Y', step⟩ := Y.arraycopy X.1 X.2.2.2.2.1 (hg _ hw.1) (hg _ hw.2.1) (hg _ hw.2.2.1) (hg _ hw.2.2.2) (src := fm_ad w 1000) (dst := fm_ad w a) (cs := scr) (cd := vp_cell (w.2.1 0) (n1, .inl (σ a))) (srcPos := nI 0) (destPos := nI 0) (n := nI 6) (by rw [hT]; exact hc0) (by rw [hT]; exact hc1)
    hs6 (fun _ h => by cases h) t3 (fun h => by cases h) hk0 hk1 hkk0 hkk1 (by simp [refKind]) (nI_pos (by decide)) (nI_pos (by decide)) (nI_pos (by decide))
    (by rw [i0, i6]; omega)
    (by rw [i0, i6]; show ¬ _ > ((arrV (w.2.1 0) n1 (fun j => .int (σ a j))).slots.size : Int); rw [arrV_size]; omega)
    (fun vm₁ _ i hi => by
      have hi6 : i < 6 := by rw [z6] at hi; exact hi
      have e : scr.slots.getD ((nI 0).toNatClampNeg + i) .null = .int (σ 1000 i) := by
        rw [z0, Nat.zero_add, Array.getD_eq_getD_getElem?, t6 _ hi6, hP.2 i hi6]
        rfl
      refine ⟨?_, ?_⟩
      · rw [e]; rfl
      · rw [e]; exact trivial)
    (g := F0 m pc ls (.int (nI 6) :: .int (nI 0) :: .ref (fm_ad w a) :: .int (nI 0) :: .ref (fm_ad w 1000) :: st)) rfl (by rw [X.2.2.2.1, ← h.1]) (rest := st) rfl (by rw [X.2.1]; exact hd) hR.1 (by have := hR.2; show 2 * 0 + _ + _ ≤ _; omega)
  have e1 : copied scr (vp_cell (w.2.1 0) (n1, .inl (σ a))) (nI 0) (nI 0) (nI 6) = vp_cell (w.2.1 0) (n1, .inl (va_cpy (σ 1000) (σ a) 0 0 6)) := by
    have e2 := va_copiedX (fun z => .int z) scr (w.2.1 0) (n0 := 6) (n1 := n1) (sp := 0) (dp := 0) (n := 6) (σ 1000) (σ a) (fun j hj => by rw [t6 j hj, hP.2 j hj]) (by omega)
    unfold copied
    rw [z0, z6]
    exact e2
  rw [e1] at Y' step
  have hl : fm_ad w a < H.size := (Array.getElem?_eq_some_iff.mp hc1).1
  have oq : ∀ q : Nat, q ≠ fm_ad w a → (H.setIfInBounds (fm_ad w a) (vp_cell (w.2.1 0) (n1, .inl (va_cpy (σ 1000) (σ a) 0 0 6))))[q]? = H[q]? := fun q hq => by simp [Array.getElem?_setIfInBounds, Ne.symm hq]
  have hP1 := hP.1.set (e := .inl (w.2.1 0, n1, .inl (va_cpy (σ 1000) (σ a) 0 0 6))) hD ha1 (show (H.setIfInBounds (fm_ad w a) _)[fm_ad w a]? = some _ by simp [Array.getElem?_setIfInBounds, hl]) oq
  obtain ⟨t, a1, b1⟩ := k p e s m args below meth c X _ _ ls (fm_P.st (f := va_cpy (σ 1000) (σ a) 0 0 6) hI.1 ha hP (by rw [fm_ce_arr hya (by decide), fm_st_eq]) hP1) ⟨by simp; exact hS.1, fun q g1 g2 => by
      rw [oq q (fun e => g2 (by rw [e]; exact hD.2 a _ ha1))]
      exact hS.2.1 q g1 g2, fun q hq => by
      rcases List.mem_append.mp hq with h | h
      · exact hS.2.2 q h
      · obtain ⟨z, -, hz⟩ := List.mem_map.mp h
        rw [← hz]
        exact hD.2 a _ ha1⟩ h _ (by rw [← hT]; rfl) Y'
  exact ⟨t, step t a1, b1⟩
end FMG
end
