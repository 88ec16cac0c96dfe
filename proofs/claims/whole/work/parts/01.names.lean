-- ===== PART A: goes FIRST, ahead of the names: the tables' words, and 'selects' of the private methods out of them =====
/-- a private method of a class that the tables say can be made, by its rows of tables_1 -/
def lw_okq (q : MethodName × Nat) : Prop := (q.1.cls ≠ "java/lang/invoke/MethodHandle" ∧ q.1.cls ≠ "java/lang/invoke/VarHandle") ∧ Cond.instantiable q.1.cls q.2 ∈ tables_1 ∧ Cond.privateMethod q.1 ∈ tables_1 ∧ Cond.instanceMethod q.1 ∈ tables_1
theorem lw_p0 : lw_okq (⟨"GlassRacks$Settings", "put", "(II)V"⟩, 5) := ⟨⟨by decide +kernel, by decide +kernel⟩, List.mem_of_getElem? (i := 28) (by decide +kernel), List.mem_of_getElem? (i := 313) (by decide +kernel), List.mem_of_getElem? (i := 314) (by decide +kernel)⟩
theorem lw_p1 : lw_okq (⟨"GlassRacks", "recorded", "(I)I"⟩, 6) := ⟨⟨by decide +kernel, by decide +kernel⟩, List.mem_of_getElem? (i := 14) (by decide +kernel), List.mem_of_getElem? (i := 317) (by decide +kernel), List.mem_of_getElem? (i := 318) (by decide +kernel)⟩
theorem lw_p2 : lw_okq (⟨"GlassRacks$History", "dropOldest", "()V"⟩, 2) := ⟨⟨by decide +kernel, by decide +kernel⟩, List.mem_of_getElem? (i := 182) (by decide +kernel), List.mem_of_getElem? (i := 325) (by decide +kernel), List.mem_of_getElem? (i := 326) (by decide +kernel)⟩
theorem lw_p3 : lw_okq (⟨"GlassRacks$History", "stateAt", "(I)LGlassRacks$State;"⟩, 2) := ⟨⟨by decide +kernel, by decide +kernel⟩, List.mem_of_getElem? (i := 182) (by decide +kernel), List.mem_of_getElem? (i := 329) (by decide +kernel), List.mem_of_getElem? (i := 330) (by decide +kernel)⟩
theorem lw_p4 : lw_okq (⟨"GlassRacks$State", "takeOut", "(I)Z"⟩, 11) := ⟨⟨by decide +kernel, by decide +kernel⟩, List.mem_of_getElem? (i := 22) (by decide +kernel), List.mem_of_getElem? (i := 418) (by decide +kernel), List.mem_of_getElem? (i := 419) (by decide +kernel)⟩
theorem lw_p5 : lw_okq (⟨"GlassRacks$State", "breakSheet", "(I)V"⟩, 11) := ⟨⟨by decide +kernel, by decide +kernel⟩, List.mem_of_getElem? (i := 22) (by decide +kernel), List.mem_of_getElem? (i := 422) (by decide +kernel), List.mem_of_getElem? (i := 423) (by decide +kernel)⟩
theorem lw_p6 : lw_okq (⟨"GlassRacks$Cutting", "splitSheet", "(IILGlassRacks$Sheet;LGlassRacks$Settings;)V"⟩, 10) := ⟨⟨by decide +kernel, by decide +kernel⟩, List.mem_of_getElem? (i := 88) (by decide +kernel), List.mem_of_getElem? (i := 542) (by decide +kernel), List.mem_of_getElem? (i := 543) (by decide +kernel)⟩
theorem lw_p7 : lw_okq (⟨"GlassRacks$Cutting", "sumUp", "(II)V"⟩, 10) := ⟨⟨by decide +kernel, by decide +kernel⟩, List.mem_of_getElem? (i := 88) (by decide +kernel), List.mem_of_getElem? (i := 551) (by decide +kernel), List.mem_of_getElem? (i := 552) (by decide +kernel)⟩
theorem lw_p8 : lw_okq (⟨"GlassRacks$State", "cutOpenOrder", "(LGlassRacks$Order;LGlassRacks$Sheet;)I"⟩, 11) := ⟨⟨by decide +kernel, by decide +kernel⟩, List.mem_of_getElem? (i := 22) (by decide +kernel), List.mem_of_getElem? (i := 558) (by decide +kernel), List.mem_of_getElem? (i := 559) (by decide +kernel)⟩
theorem lw_p9 : lw_okq (⟨"GlassRacks$State", "keepOrScrap", "(IILGlassRacks$Sheet;I)I"⟩, 11) := ⟨⟨by decide +kernel, by decide +kernel⟩, List.mem_of_getElem? (i := 22) (by decide +kernel), List.mem_of_getElem? (i := 567) (by decide +kernel), List.mem_of_getElem? (i := 568) (by decide +kernel)⟩
theorem lw_p10 : lw_okq (⟨"GlassRacks$State", "measureOf", "(LGlassRacks$Sheet;II)I"⟩, 11) := ⟨⟨by decide +kernel, by decide +kernel⟩, List.mem_of_getElem? (i := 22) (by decide +kernel), List.mem_of_getElem? (i := 595) (by decide +kernel), List.mem_of_getElem? (i := 596) (by decide +kernel)⟩
theorem lw_p11 : lw_okq (⟨"GlassRacks$CommandText", "expect", "(I)V"⟩, 12) := ⟨⟨by decide +kernel, by decide +kernel⟩, List.mem_of_getElem? (i := 199) (by decide +kernel), List.mem_of_getElem? (i := 631) (by decide +kernel), List.mem_of_getElem? (i := 632) (by decide +kernel)⟩
theorem lw_p12 : lw_okq (⟨"GlassRacks$CommandText", "here", "()I"⟩, 12) := ⟨⟨by decide +kernel, by decide +kernel⟩, List.mem_of_getElem? (i := 199) (by decide +kernel), List.mem_of_getElem? (i := 635) (by decide +kernel), List.mem_of_getElem? (i := 636) (by decide +kernel)⟩
theorem lw_p13 : lw_okq (⟨"GlassRacks$CommandText", "readPurchase", "()V"⟩, 12) := ⟨⟨by decide +kernel, by decide +kernel⟩, List.mem_of_getElem? (i := 199) (by decide +kernel), List.mem_of_getElem? (i := 639) (by decide +kernel), List.mem_of_getElem? (i := 640) (by decide +kernel)⟩
theorem lw_p14 : lw_okq (⟨"GlassRacks$CommandText", "numberBehind", "(III)I"⟩, 12) := ⟨⟨by decide +kernel, by decide +kernel⟩, List.mem_of_getElem? (i := 199) (by decide +kernel), List.mem_of_getElem? (i := 643) (by decide +kernel), List.mem_of_getElem? (i := 644) (by decide +kernel)⟩
theorem lw_p15 : lw_okq (⟨"GlassRacks$CommandText", "digitHere", "()I"⟩, 12) := ⟨⟨by decide +kernel, by decide +kernel⟩, List.mem_of_getElem? (i := 199) (by decide +kernel), List.mem_of_getElem? (i := 647) (by decide +kernel), List.mem_of_getElem? (i := 648) (by decide +kernel)⟩
def lw_privs_1 : List (MethodName × Nat) := [(⟨"GlassRacks$Settings", "put", "(II)V"⟩, 5), (⟨"GlassRacks", "recorded", "(I)I"⟩, 6), (⟨"GlassRacks$History", "dropOldest", "()V"⟩, 2), (⟨"GlassRacks$History", "stateAt", "(I)LGlassRacks$State;"⟩, 2), (⟨"GlassRacks$State", "takeOut", "(I)Z"⟩, 11), (⟨"GlassRacks$State", "breakSheet", "(I)V"⟩, 11), (⟨"GlassRacks$Cutting", "splitSheet", "(IILGlassRacks$Sheet;LGlassRacks$Settings;)V"⟩, 10), (⟨"GlassRacks$Cutting", "sumUp", "(II)V"⟩, 10), (⟨"GlassRacks$State", "cutOpenOrder", "(LGlassRacks$Order;LGlassRacks$Sheet;)I"⟩, 11), (⟨"GlassRacks$State", "keepOrScrap", "(IILGlassRacks$Sheet;I)I"⟩, 11), (⟨"GlassRacks$State", "measureOf", "(LGlassRacks$Sheet;II)I"⟩, 11), (⟨"GlassRacks$CommandText", "expect", "(I)V"⟩, 12), (⟨"GlassRacks$CommandText", "here", "()I"⟩, 12), (⟨"GlassRacks$CommandText", "readPurchase", "()V"⟩, 12), (⟨"GlassRacks$CommandText", "numberBehind", "(III)I"⟩, 12), (⟨"GlassRacks$CommandText", "digitHere", "()I"⟩, 12)]
theorem lw_r1 : ∀ q ∈ lw_privs_1, lw_okq q := List.forall_mem_cons.mpr ⟨lw_p0, List.forall_mem_cons.mpr ⟨lw_p1, List.forall_mem_cons.mpr ⟨lw_p2, List.forall_mem_cons.mpr ⟨lw_p3, List.forall_mem_cons.mpr ⟨lw_p4, List.forall_mem_cons.mpr ⟨lw_p5, List.forall_mem_cons.mpr ⟨lw_p6, List.forall_mem_cons.mpr ⟨lw_p7, List.forall_mem_cons.mpr ⟨lw_p8, List.forall_mem_cons.mpr ⟨lw_p9, List.forall_mem_cons.mpr ⟨lw_p10, List.forall_mem_cons.mpr ⟨lw_p11, List.forall_mem_cons.mpr ⟨lw_p12, List.forall_mem_cons.mpr ⟨lw_p13, List.forall_mem_cons.mpr ⟨lw_p14, List.forall_mem_cons.mpr ⟨lw_p15, fun _ h => absurd h List.not_mem_nil⟩⟩⟩⟩⟩⟩⟩⟩⟩⟩⟩⟩⟩⟩⟩⟩
theorem lw_p16 : lw_okq (⟨"GlassRacks$CommandText", "readOrder", "()V"⟩, 12) := ⟨⟨by decide +kernel, by decide +kernel⟩, List.mem_of_getElem? (i := 199) (by decide +kernel), List.mem_of_getElem? (i := 651) (by decide +kernel), List.mem_of_getElem? (i := 652) (by decide +kernel)⟩
theorem lw_p17 : lw_okq (⟨"GlassRacks", "runCommand", "()I"⟩, 6) := ⟨⟨by decide +kernel, by decide +kernel⟩, List.mem_of_getElem? (i := 14) (by decide +kernel), List.mem_of_getElem? (i := 657) (by decide +kernel), List.mem_of_getElem? (i := 658) (by decide +kernel)⟩
theorem lw_p18 : lw_okq (⟨"GlassRacksModel", "setting", "(I)I"⟩, 9) := ⟨⟨by decide +kernel, by decide +kernel⟩, List.mem_of_getElem? (i := 756) (by decide +kernel), List.mem_of_getElem? (i := 798) (by decide +kernel), List.mem_of_getElem? (i := 799) (by decide +kernel)⟩
theorem lw_p19 : lw_okq (⟨"GlassRacksModel", "record", "([I)V"⟩, 9) := ⟨⟨by decide +kernel, by decide +kernel⟩, List.mem_of_getElem? (i := 756) (by decide +kernel), List.mem_of_getElem? (i := 802) (by decide +kernel), List.mem_of_getElem? (i := 803) (by decide +kernel)⟩
theorem lw_p20 : lw_okq (⟨"GlassRacksModel", "buys", "(IIII)I"⟩, 9) := ⟨⟨by decide +kernel, by decide +kernel⟩, List.mem_of_getElem? (i := 756) (by decide +kernel), List.mem_of_getElem? (i := 813) (by decide +kernel), List.mem_of_getElem? (i := 814) (by decide +kernel)⟩
theorem lw_p21 : lw_okq (⟨"GlassRacksModel", "many", "(I)I"⟩, 9) := ⟨⟨by decide +kernel, by decide +kernel⟩, List.mem_of_getElem? (i := 756) (by decide +kernel), List.mem_of_getElem? (i := 817) (by decide +kernel), List.mem_of_getElem? (i := 818) (by decide +kernel)⟩
theorem lw_p22 : lw_okq (⟨"GlassRacksModel", "makes", "(IIIII)I"⟩, 9) := ⟨⟨by decide +kernel, by decide +kernel⟩, List.mem_of_getElem? (i := 756) (by decide +kernel), List.mem_of_getElem? (i := 821) (by decide +kernel), List.mem_of_getElem? (i := 822) (by decide +kernel)⟩
theorem lw_p23 : lw_okq (⟨"GlassRacksModel", "leans", "(II)V"⟩, 9) := ⟨⟨by decide +kernel, by decide +kernel⟩, List.mem_of_getElem? (i := 756) (by decide +kernel), List.mem_of_getElem? (i := 825) (by decide +kernel), List.mem_of_getElem? (i := 826) (by decide +kernel)⟩
theorem lw_p24 : lw_okq (⟨"GlassRacksModel", "isSheet", "(I)Z"⟩, 9) := ⟨⟨by decide +kernel, by decide +kernel⟩, List.mem_of_getElem? (i := 756) (by decide +kernel), List.mem_of_getElem? (i := 833) (by decide +kernel), List.mem_of_getElem? (i := 834) (by decide +kernel)⟩
theorem lw_p25 : lw_okq (⟨"GlassRacksModel", "its", "(II)I"⟩, 9) := ⟨⟨by decide +kernel, by decide +kernel⟩, List.mem_of_getElem? (i := 756) (by decide +kernel), List.mem_of_getElem? (i := 837) (by decide +kernel), List.mem_of_getElem? (i := 838) (by decide +kernel)⟩
theorem lw_p26 : lw_okq (⟨"GlassRacksModel", "takes", "(I)Z"⟩, 9) := ⟨⟨by decide +kernel, by decide +kernel⟩, List.mem_of_getElem? (i := 756) (by decide +kernel), List.mem_of_getElem? (i := 841) (by decide +kernel), List.mem_of_getElem? (i := 842) (by decide +kernel)⟩
theorem lw_p27 : lw_okq (⟨"GlassRacksModel", "before", "(I)I"⟩, 9) := ⟨⟨by decide +kernel, by decide +kernel⟩, List.mem_of_getElem? (i := 756) (by decide +kernel), List.mem_of_getElem? (i := 845) (by decide +kernel), List.mem_of_getElem? (i := 846) (by decide +kernel)⟩
theorem lw_p28 : lw_okq (⟨"GlassRacksModel", "standing", "(II)I"⟩, 9) := ⟨⟨by decide +kernel, by decide +kernel⟩, List.mem_of_getElem? (i := 756) (by decide +kernel), List.mem_of_getElem? (i := 849) (by decide +kernel), List.mem_of_getElem? (i := 850) (by decide +kernel)⟩
theorem lw_p29 : lw_okq (⟨"GlassRacksModel", "breaks", "(I)Z"⟩, 9) := ⟨⟨by decide +kernel, by decide +kernel⟩, List.mem_of_getElem? (i := 756) (by decide +kernel), List.mem_of_getElem? (i := 853) (by decide +kernel), List.mem_of_getElem? (i := 854) (by decide +kernel)⟩
theorem lw_p30 : lw_okq (⟨"GlassRacksModel", "area", "(I)I"⟩, 9) := ⟨⟨by decide +kernel, by decide +kernel⟩, List.mem_of_getElem? (i := 756) (by decide +kernel), List.mem_of_getElem? (i := 857) (by decide +kernel), List.mem_of_getElem? (i := 858) (by decide +kernel)⟩
theorem lw_p31 : lw_okq (⟨"GlassRacksModel", "orders", "(IIII)I"⟩, 9) := ⟨⟨by decide +kernel, by decide +kernel⟩, List.mem_of_getElem? (i := 756) (by decide +kernel), List.mem_of_getElem? (i := 869) (by decide +kernel), List.mem_of_getElem? (i := 870) (by decide +kernel)⟩
def lw_privs_2 : List (MethodName × Nat) := [(⟨"GlassRacks$CommandText", "readOrder", "()V"⟩, 12), (⟨"GlassRacks", "runCommand", "()I"⟩, 6), (⟨"GlassRacksModel", "setting", "(I)I"⟩, 9), (⟨"GlassRacksModel", "record", "([I)V"⟩, 9), (⟨"GlassRacksModel", "buys", "(IIII)I"⟩, 9), (⟨"GlassRacksModel", "many", "(I)I"⟩, 9), (⟨"GlassRacksModel", "makes", "(IIIII)I"⟩, 9), (⟨"GlassRacksModel", "leans", "(II)V"⟩, 9), (⟨"GlassRacksModel", "isSheet", "(I)Z"⟩, 9), (⟨"GlassRacksModel", "its", "(II)I"⟩, 9), (⟨"GlassRacksModel", "takes", "(I)Z"⟩, 9), (⟨"GlassRacksModel", "before", "(I)I"⟩, 9), (⟨"GlassRacksModel", "standing", "(II)I"⟩, 9), (⟨"GlassRacksModel", "breaks", "(I)Z"⟩, 9), (⟨"GlassRacksModel", "area", "(I)I"⟩, 9), (⟨"GlassRacksModel", "orders", "(IIII)I"⟩, 9)]
theorem lw_r2 : ∀ q ∈ lw_privs_2, lw_okq q := List.forall_mem_cons.mpr ⟨lw_p16, List.forall_mem_cons.mpr ⟨lw_p17, List.forall_mem_cons.mpr ⟨lw_p18, List.forall_mem_cons.mpr ⟨lw_p19, List.forall_mem_cons.mpr ⟨lw_p20, List.forall_mem_cons.mpr ⟨lw_p21, List.forall_mem_cons.mpr ⟨lw_p22, List.forall_mem_cons.mpr ⟨lw_p23, List.forall_mem_cons.mpr ⟨lw_p24, List.forall_mem_cons.mpr ⟨lw_p25, List.forall_mem_cons.mpr ⟨lw_p26, List.forall_mem_cons.mpr ⟨lw_p27, List.forall_mem_cons.mpr ⟨lw_p28, List.forall_mem_cons.mpr ⟨lw_p29, List.forall_mem_cons.mpr ⟨lw_p30, List.forall_mem_cons.mpr ⟨lw_p31, fun _ h => absurd h List.not_mem_nil⟩⟩⟩⟩⟩⟩⟩⟩⟩⟩⟩⟩⟩⟩⟩⟩
theorem lw_p32 : lw_okq (⟨"GlassRacksModel", "isOrder", "(I)Z"⟩, 9) := ⟨⟨by decide +kernel, by decide +kernel⟩, List.mem_of_getElem? (i := 756) (by decide +kernel), List.mem_of_getElem? (i := 877) (by decide +kernel), List.mem_of_getElem? (i := 878) (by decide +kernel)⟩
theorem lw_p33 : lw_okq (⟨"GlassRacksModel", "isOpen", "(I)Z"⟩, 9) := ⟨⟨by decide +kernel, by decide +kernel⟩, List.mem_of_getElem? (i := 756) (by decide +kernel), List.mem_of_getElem? (i := 881) (by decide +kernel), List.mem_of_getElem? (i := 882) (by decide +kernel)⟩
theorem lw_p34 : lw_okq (⟨"GlassRacksModel", "of", "(II)I"⟩, 9) := ⟨⟨by decide +kernel, by decide +kernel⟩, List.mem_of_getElem? (i := 756) (by decide +kernel), List.mem_of_getElem? (i := 885) (by decide +kernel), List.mem_of_getElem? (i := 886) (by decide +kernel)⟩
theorem lw_p35 : lw_okq (⟨"GlassRacksModel", "open", "()I"⟩, 9) := ⟨⟨by decide +kernel, by decide +kernel⟩, List.mem_of_getElem? (i := 756) (by decide +kernel), List.mem_of_getElem? (i := 889) (by decide +kernel), List.mem_of_getElem? (i := 890) (by decide +kernel)⟩
theorem lw_p36 : lw_okq (⟨"GlassRacksModel", "lies", "(II)I"⟩, 9) := ⟨⟨by decide +kernel, by decide +kernel⟩, List.mem_of_getElem? (i := 756) (by decide +kernel), List.mem_of_getElem? (i := 897) (by decide +kernel), List.mem_of_getElem? (i := 898) (by decide +kernel)⟩
theorem lw_p37 : lw_okq (⟨"GlassRacksModel", "cuts", "(II)I"⟩, 9) := ⟨⟨by decide +kernel, by decide +kernel⟩, List.mem_of_getElem? (i := 756) (by decide +kernel), List.mem_of_getElem? (i := 901) (by decide +kernel), List.mem_of_getElem? (i := 902) (by decide +kernel)⟩
theorem lw_p38 : lw_okq (⟨"GlassRacksModel", "pieceArea", "(III)I"⟩, 9) := ⟨⟨by decide +kernel, by decide +kernel⟩, List.mem_of_getElem? (i := 756) (by decide +kernel), List.mem_of_getElem? (i := 905) (by decide +kernel), List.mem_of_getElem? (i := 906) (by decide +kernel)⟩
theorem lw_p39 : lw_okq (⟨"GlassRacksModel", "piece", "(IIII)I"⟩, 9) := ⟨⟨by decide +kernel, by decide +kernel⟩, List.mem_of_getElem? (i := 756) (by decide +kernel), List.mem_of_getElem? (i := 909) (by decide +kernel), List.mem_of_getElem? (i := 910) (by decide +kernel)⟩
theorem lw_p40 : lw_okq (⟨"GlassRacksModel", "keeps", "(III)Z"⟩, 9) := ⟨⟨by decide +kernel, by decide +kernel⟩, List.mem_of_getElem? (i := 756) (by decide +kernel), List.mem_of_getElem? (i := 913) (by decide +kernel), List.mem_of_getElem? (i := 914) (by decide +kernel)⟩
theorem lw_p41 : lw_okq (⟨"GlassRacksModel", "plans", "(I)I"⟩, 9) := ⟨⟨by decide +kernel, by decide +kernel⟩, List.mem_of_getElem? (i := 756) (by decide +kernel), List.mem_of_getElem? (i := 921) (by decide +kernel), List.mem_of_getElem? (i := 922) (by decide +kernel)⟩
theorem lw_p42 : lw_okq (⟨"GlassRacksModel", "first", "(I)I"⟩, 9) := ⟨⟨by decide +kernel, by decide +kernel⟩, List.mem_of_getElem? (i := 756) (by decide +kernel), List.mem_of_getElem? (i := 925) (by decide +kernel), List.mem_of_getElem? (i := 926) (by decide +kernel)⟩
theorem lw_p43 : lw_okq (⟨"GlassRacksModel", "isAhead", "(II)Z"⟩, 9) := ⟨⟨by decide +kernel, by decide +kernel⟩, List.mem_of_getElem? (i := 756) (by decide +kernel), List.mem_of_getElem? (i := 929) (by decide +kernel), List.mem_of_getElem? (i := 930) (by decide +kernel)⟩
theorem lw_p44 : lw_okq (⟨"GlassRacksModel", "chosen", "(II)I"⟩, 9) := ⟨⟨by decide +kernel, by decide +kernel⟩, List.mem_of_getElem? (i := 756) (by decide +kernel), List.mem_of_getElem? (i := 933) (by decide +kernel), List.mem_of_getElem? (i := 934) (by decide +kernel)⟩
theorem lw_p45 : lw_okq (⟨"GlassRacksModel", "goes", "(III)I"⟩, 9) := ⟨⟨by decide +kernel, by decide +kernel⟩, List.mem_of_getElem? (i := 756) (by decide +kernel), List.mem_of_getElem? (i := 937) (by decide +kernel), List.mem_of_getElem? (i := 938) (by decide +kernel)⟩
theorem lw_p46 : lw_okq (⟨"GlassRacksModel", "scrapArea", "(II)I"⟩, 9) := ⟨⟨by decide +kernel, by decide +kernel⟩, List.mem_of_getElem? (i := 756) (by decide +kernel), List.mem_of_getElem? (i := 941) (by decide +kernel), List.mem_of_getElem? (i := 942) (by decide +kernel)⟩
theorem lw_p47 : lw_okq (⟨"GlassRacksModel", "keptArea", "(II)I"⟩, 9) := ⟨⟨by decide +kernel, by decide +kernel⟩, List.mem_of_getElem? (i := 756) (by decide +kernel), List.mem_of_getElem? (i := 945) (by decide +kernel), List.mem_of_getElem? (i := 946) (by decide +kernel)⟩
def lw_privs_3 : List (MethodName × Nat) := [(⟨"GlassRacksModel", "isOrder", "(I)Z"⟩, 9), (⟨"GlassRacksModel", "isOpen", "(I)Z"⟩, 9), (⟨"GlassRacksModel", "of", "(II)I"⟩, 9), (⟨"GlassRacksModel", "open", "()I"⟩, 9), (⟨"GlassRacksModel", "lies", "(II)I"⟩, 9), (⟨"GlassRacksModel", "cuts", "(II)I"⟩, 9), (⟨"GlassRacksModel", "pieceArea", "(III)I"⟩, 9), (⟨"GlassRacksModel", "piece", "(IIII)I"⟩, 9), (⟨"GlassRacksModel", "keeps", "(III)Z"⟩, 9), (⟨"GlassRacksModel", "plans", "(I)I"⟩, 9), (⟨"GlassRacksModel", "first", "(I)I"⟩, 9), (⟨"GlassRacksModel", "isAhead", "(II)Z"⟩, 9), (⟨"GlassRacksModel", "chosen", "(II)I"⟩, 9), (⟨"GlassRacksModel", "goes", "(III)I"⟩, 9), (⟨"GlassRacksModel", "scrapArea", "(II)I"⟩, 9), (⟨"GlassRacksModel", "keptArea", "(II)I"⟩, 9)]
theorem lw_r3 : ∀ q ∈ lw_privs_3, lw_okq q := List.forall_mem_cons.mpr ⟨lw_p32, List.forall_mem_cons.mpr ⟨lw_p33, List.forall_mem_cons.mpr ⟨lw_p34, List.forall_mem_cons.mpr ⟨lw_p35, List.forall_mem_cons.mpr ⟨lw_p36, List.forall_mem_cons.mpr ⟨lw_p37, List.forall_mem_cons.mpr ⟨lw_p38, List.forall_mem_cons.mpr ⟨lw_p39, List.forall_mem_cons.mpr ⟨lw_p40, List.forall_mem_cons.mpr ⟨lw_p41, List.forall_mem_cons.mpr ⟨lw_p42, List.forall_mem_cons.mpr ⟨lw_p43, List.forall_mem_cons.mpr ⟨lw_p44, List.forall_mem_cons.mpr ⟨lw_p45, List.forall_mem_cons.mpr ⟨lw_p46, List.forall_mem_cons.mpr ⟨lw_p47, fun _ h => absurd h List.not_mem_nil⟩⟩⟩⟩⟩⟩⟩⟩⟩⟩⟩⟩⟩⟩⟩⟩
theorem lw_p48 : lw_okq (⟨"GlassRacksModel", "passes", "(I)I"⟩, 9) := ⟨⟨by decide +kernel, by decide +kernel⟩, List.mem_of_getElem? (i := 756) (by decide +kernel), List.mem_of_getElem? (i := 953) (by decide +kernel), List.mem_of_getElem? (i := 954) (by decide +kernel)⟩
theorem lw_p49 : lw_okq (⟨"GlassRacksModel", "late", "()I"⟩, 9) := ⟨⟨by decide +kernel, by decide +kernel⟩, List.mem_of_getElem? (i := 756) (by decide +kernel), List.mem_of_getElem? (i := 957) (by decide +kernel), List.mem_of_getElem? (i := 958) (by decide +kernel)⟩
theorem lw_p50 : lw_okq (⟨"GlassRacksModel", "isLate", "(I)Z"⟩, 9) := ⟨⟨by decide +kernel, by decide +kernel⟩, List.mem_of_getElem? (i := 756) (by decide +kernel), List.mem_of_getElem? (i := 961) (by decide +kernel), List.mem_of_getElem? (i := 962) (by decide +kernel)⟩
theorem lw_p51 : lw_okq (⟨"GlassRacksModel", "commands", "()I"⟩, 9) := ⟨⟨by decide +kernel, by decide +kernel⟩, List.mem_of_getElem? (i := 756) (by decide +kernel), List.mem_of_getElem? (i := 969) (by decide +kernel), List.mem_of_getElem? (i := 970) (by decide +kernel)⟩
theorem lw_p52 : lw_okq (⟨"GlassRacksModel", "command", "(Z)I"⟩, 9) := ⟨⟨by decide +kernel, by decide +kernel⟩, List.mem_of_getElem? (i := 756) (by decide +kernel), List.mem_of_getElem? (i := 973) (by decide +kernel), List.mem_of_getElem? (i := 974) (by decide +kernel)⟩
theorem lw_p53 : lw_okq (⟨"GlassRacksModel", "stands", "(I)Z"⟩, 9) := ⟨⟨by decide +kernel, by decide +kernel⟩, List.mem_of_getElem? (i := 756) (by decide +kernel), List.mem_of_getElem? (i := 977) (by decide +kernel), List.mem_of_getElem? (i := 978) (by decide +kernel)⟩
theorem lw_p54 : lw_okq (⟨"GlassRacksModel", "number", "(II)I"⟩, 9) := ⟨⟨by decide +kernel, by decide +kernel⟩, List.mem_of_getElem? (i := 756) (by decide +kernel), List.mem_of_getElem? (i := 981) (by decide +kernel), List.mem_of_getElem? (i := 982) (by decide +kernel)⟩
def lw_privs_4 : List (MethodName × Nat) := [(⟨"GlassRacksModel", "passes", "(I)I"⟩, 9), (⟨"GlassRacksModel", "late", "()I"⟩, 9), (⟨"GlassRacksModel", "isLate", "(I)Z"⟩, 9), (⟨"GlassRacksModel", "commands", "()I"⟩, 9), (⟨"GlassRacksModel", "command", "(Z)I"⟩, 9), (⟨"GlassRacksModel", "stands", "(I)Z"⟩, 9), (⟨"GlassRacksModel", "number", "(II)I"⟩, 9)]
theorem lw_r4 : ∀ q ∈ lw_privs_4, lw_okq q := List.forall_mem_cons.mpr ⟨lw_p48, List.forall_mem_cons.mpr ⟨lw_p49, List.forall_mem_cons.mpr ⟨lw_p50, List.forall_mem_cons.mpr ⟨lw_p51, List.forall_mem_cons.mpr ⟨lw_p52, List.forall_mem_cons.mpr ⟨lw_p53, List.forall_mem_cons.mpr ⟨lw_p54, fun _ h => absurd h List.not_mem_nil⟩⟩⟩⟩⟩⟩⟩
def lw_privs : List (MethodName × Nat) := lw_privs_1 ++ (lw_privs_2 ++ (lw_privs_3 ++ (lw_privs_4)))
def lw_tbl : List Cond := k2_sels lw_privs ++ tables_1
theorem lw_privs_ok : ∀ q ∈ lw_privs, lw_okq q := by
  show ∀ q ∈ lw_privs_1 ++ (lw_privs_2 ++ (lw_privs_3 ++ (lw_privs_4))), lw_okq q
  exact List.forall_mem_append.mpr ⟨lw_r1, List.forall_mem_append.mpr ⟨lw_r2, List.forall_mem_append.mpr ⟨lw_r3, lw_r4⟩⟩⟩
/-! ===== BEGIN words of one list among another's, by their places ===== -/
/-! ===== END ===== -/

/-! ===== BEGIN printed: names, fields, word lists, decode rows ===== -/
def RX0 : String := "GlassRacks$CommandText"
def TX0 : u_T := fun k => match k with
  | 0 => ("GlassRacks$CommandText", "characters", "[C", true)
  | 1 => ("GlassRacks$CommandText", "length", "I", false)
  | 2 => ("GlassRacks$CommandText", "position", "I", false)
  | 3 => ("GlassRacks$CommandText", "faulty", "Z", false)
  | 4 => ("GlassRacks$CommandText", "command", "I", false)
  | 5 => ("GlassRacks$CommandText", "rack", "I", false)
  | 6 => ("GlassRacks$CommandText", "sort", "I", false)
  | 7 => ("GlassRacks$CommandText", "width", "I", false)
  | 8 => ("GlassRacks$CommandText", "height", "I", false)
  | 9 => ("GlassRacks$CommandText", "day", "I", false)
  | 10 => ("GlassRacks$CommandText", "choice", "I", false)
  | _ => ("GlassRacks$CommandText", "days", "I", false)
def tyX0 : Nat → FieldType := fun k => match k with
  | 0 => .array .char
  | 1 => .int
  | 2 => .int
  | 3 => .boolean
  | 4 => .int
  | 5 => .int
  | 6 => .int
  | 7 => .int
  | 8 => .int
  | 9 => .int
  | 10 => .int
  | _ => .int
abbrev wsX00 : List Cond := u_ws RX0 TX0 12
theorem nmX0 : ∀ a, a < 12 → ∀ b, b < 12 → a ≠ b → (TX0 a).2.1 ≠ (TX0 b).2.1 := by decide +kernel
theorem tyX0_ok : ∀ k, k < 12 → parseFieldDescriptor (TX0 k).2.2.1 = some (tyX0 k) := by decide +kernel
abbrev cX0_init : ByteArray := prog_2_method_1_code
def yX0_init : MethodName := ⟨RX0, "<init>", "()V"⟩
abbrev cX0_append : ByteArray := prog_2_method_2_code
def yX0_append : MethodName := ⟨RX0, "append", "(C)I"⟩
abbrev cX0_empty : ByteArray := prog_2_method_3_code
def yX0_empty : MethodName := ⟨RX0, "empty", "()I"⟩
abbrev cX0_commandsOrFault : ByteArray := prog_2_method_4_code
def yX0_commandsOrFault : MethodName := ⟨RX0, "commandsOrFault", "()I"⟩
abbrev cX0_rewind : ByteArray := prog_2_method_5_code
def yX0_rewind : MethodName := ⟨RX0, "rewind", "()V"⟩
abbrev cX0_readCommand : ByteArray := prog_2_method_6_code
def yX0_readCommand : MethodName := ⟨RX0, "readCommand", "()V"⟩
abbrev cX0_readPurchase : ByteArray := prog_2_method_7_code
def yX0_readPurchase : MethodName := ⟨RX0, "readPurchase", "()V"⟩
abbrev cX0_readOrder : ByteArray := prog_2_method_8_code
def yX0_readOrder : MethodName := ⟨RX0, "readOrder", "()V"⟩
abbrev cX0_numberBehind : ByteArray := prog_2_method_9_code
def yX0_numberBehind : MethodName := ⟨RX0, "numberBehind", "(III)I"⟩
abbrev cX0_expect : ByteArray := prog_2_method_10_code
def yX0_expect : MethodName := ⟨RX0, "expect", "(I)V"⟩
abbrev cX0_digitHere : ByteArray := prog_2_method_11_code
def yX0_digitHere : MethodName := ⟨RX0, "digitHere", "()I"⟩
abbrev cX0_here : ByteArray := prog_2_method_12_code
def yX0_here : MethodName := ⟨RX0, "here", "()I"⟩
def RX1 : String := "GlassRacks$Cutting"
def TX1 : u_T := fun k => match k with
  | 0 => ("GlassRacks$Cutting", "turned", "Z", false)
  | 1 => ("GlassRacks$Cutting", "besideWidth", "I", false)
  | 2 => ("GlassRacks$Cutting", "besideHeight", "I", false)
  | 3 => ("GlassRacks$Cutting", "besideArea", "I", false)
  | 4 => ("GlassRacks$Cutting", "aboveWidth", "I", false)
  | 5 => ("GlassRacks$Cutting", "aboveHeight", "I", false)
  | 6 => ("GlassRacks$Cutting", "aboveArea", "I", false)
  | 7 => ("GlassRacks$Cutting", "keptArea", "I", false)
  | 8 => ("GlassRacks$Cutting", "scrapArea", "I", false)
  | _ => ("GlassRacks$Cutting", "lostArea", "I", false)
def tyX1 : Nat → FieldType := fun k => match k with
  | 0 => .boolean
  | 1 => .int
  | 2 => .int
  | 3 => .int
  | 4 => .int
  | 5 => .int
  | 6 => .int
  | 7 => .int
  | 8 => .int
  | _ => .int
abbrev wsX10 : List Cond := u_ws RX1 TX1 10
theorem nmX1 : ∀ a, a < 10 → ∀ b, b < 10 → a ≠ b → (TX1 a).2.1 ≠ (TX1 b).2.1 := by decide +kernel
theorem tyX1_ok : ∀ k, k < 10 → parseFieldDescriptor (TX1 k).2.2.1 = some (tyX1 k) := by decide +kernel
abbrev cX1_init : ByteArray := prog_3_method_1_code
def yX1_init : MethodName := ⟨RX1, "<init>", "()V"⟩
abbrev cX1_layOut : ByteArray := prog_3_method_2_code
def yX1_layOut : MethodName := ⟨RX1, "layOut", "(LGlassRacks$Order;LGlassRacks$Sheet;LGlassRacks$Settings;)Z"⟩
abbrev cX1_splitSheet : ByteArray := prog_3_method_3_code
def yX1_splitSheet : MethodName := ⟨RX1, "splitSheet", "(IILGlassRacks$Sheet;LGlassRacks$Settings;)V"⟩
abbrev cX1_sumUp : ByteArray := prog_3_method_4_code
def yX1_sumUp : MethodName := ⟨RX1, "sumUp", "(II)V"⟩
def RX2 : String := "GlassRacks$History"
def TX2 : u_T := fun k => match k with
  | 0 => ("GlassRacks$History", "states", "[LGlassRacks$State;", true)
  | _ => ("GlassRacks$History", "recorded", "I", false)
def tyX2 : Nat → FieldType := fun k => match k with
  | 0 => .array (.object "GlassRacks$State")
  | _ => .int
abbrev wsX20 : List Cond := u_ws RX2 TX2 2
theorem nmX2 : ∀ a, a < 2 → ∀ b, b < 2 → a ≠ b → (TX2 a).2.1 ≠ (TX2 b).2.1 := by decide +kernel
theorem tyX2_ok : ∀ k, k < 2 → parseFieldDescriptor (TX2 k).2.2.1 = some (tyX2 k) := by decide +kernel
abbrev cX2_init : ByteArray := prog_4_method_1_code
def yX2_init : MethodName := ⟨RX2, "<init>", "()V"⟩
abbrev cX2_record : ByteArray := prog_4_method_2_code
def yX2_record : MethodName := ⟨RX2, "record", "(LGlassRacks$State;)V"⟩
abbrev cX2_takeBack : ByteArray := prog_4_method_3_code
def yX2_takeBack : MethodName := ⟨RX2, "takeBack", "(LGlassRacks$State;)I"⟩
abbrev cX2_stateAt : ByteArray := prog_4_method_4_code
def yX2_stateAt : MethodName := ⟨RX2, "stateAt", "(I)LGlassRacks$State;"⟩
abbrev cX2_dropOldest : ByteArray := prog_4_method_5_code
def yX2_dropOldest : MethodName := ⟨RX2, "dropOldest", "()V"⟩
def RX3 : String := "GlassRacks$Order"
def TX3 : u_T := fun k => match k with
  | 0 => ("GlassRacks$Order", "number", "I", true)
  | 1 => ("GlassRacks$Order", "sort", "I", true)
  | 2 => ("GlassRacks$Order", "width", "I", true)
  | 3 => ("GlassRacks$Order", "height", "I", true)
  | 4 => ("GlassRacks$Order", "day", "I", true)
  | 5 => ("GlassRacks$Order", "status", "I", false)
  | 6 => ("GlassRacks$Order", "source", "I", false)
  | _ => ("GlassRacks$Order", "cutDay", "I", false)
def tyX3 : Nat → FieldType := fun k => match k with
  | 0 => .int
  | 1 => .int
  | 2 => .int
  | 3 => .int
  | 4 => .int
  | 5 => .int
  | 6 => .int
  | _ => .int
abbrev wsX30 : List Cond := u_ws RX3 TX3 8
theorem nmX3 : ∀ a, a < 8 → ∀ b, b < 8 → a ≠ b → (TX3 a).2.1 ≠ (TX3 b).2.1 := by decide +kernel
theorem tyX3_ok : ∀ k, k < 8 → parseFieldDescriptor (TX3 k).2.2.1 = some (tyX3 k) := by decide +kernel
abbrev cX3_init : ByteArray := prog_5_method_1_code
def yX3_init : MethodName := ⟨RX3, "<init>", "(IIIII)V"⟩
abbrev cX3_asCut : ByteArray := prog_5_method_2_code
def yX3_asCut : MethodName := ⟨RX3, "asCut", "(II)LGlassRacks$Order;"⟩
abbrev cX3_asCancelled : ByteArray := prog_5_method_3_code
def yX3_asCancelled : MethodName := ⟨RX3, "asCancelled", "()LGlassRacks$Order;"⟩
abbrev cX3_area : ByteArray := prog_5_method_4_code
def yX3_area : MethodName := ⟨RX3, "area", "()I"⟩
abbrev cX3_isOpen : ByteArray := prog_5_method_5_code
def yX3_isOpen : MethodName := ⟨RX3, "isOpen", "()Z"⟩
abbrev cX3_isLate : ByteArray := prog_5_method_6_code
def yX3_isLate : MethodName := ⟨RX3, "isLate", "(I)Z"⟩
abbrev cX3_goesBefore : ByteArray := prog_5_method_7_code
def yX3_goesBefore : MethodName := ⟨RX3, "goesBefore", "(LGlassRacks$Order;)Z"⟩
def RX4 : String := "GlassRacks$Orders"
def TX4 : u_T := fun k => match k with
  | 0 => ("GlassRacks$Orders", "list", "[LGlassRacks$Order;", true)
  | _ => ("GlassRacks$Orders", "taken", "I", false)
def tyX4 : Nat → FieldType := fun k => match k with
  | 0 => .array (.object "GlassRacks$Order")
  | _ => .int
abbrev wsX40 : List Cond := u_ws RX4 TX4 2
theorem nmX4 : ∀ a, a < 2 → ∀ b, b < 2 → a ≠ b → (TX4 a).2.1 ≠ (TX4 b).2.1 := by decide +kernel
theorem tyX4_ok : ∀ k, k < 2 → parseFieldDescriptor (TX4 k).2.2.1 = some (tyX4 k) := by decide +kernel
abbrev cX4_init : ByteArray := prog_6_method_1_code
def yX4_init : MethodName := ⟨RX4, "<init>", "()V"⟩
abbrev cX4_copyFrom : ByteArray := prog_6_method_2_code
def yX4_copyFrom : MethodName := ⟨RX4, "copyFrom", "(LGlassRacks$Orders;)V"⟩
abbrev cX4_numbered : ByteArray := prog_6_method_3_code
def yX4_numbered : MethodName := ⟨RX4, "numbered", "(I)LGlassRacks$Order;"⟩
abbrev cX4_isFull : ByteArray := prog_6_method_4_code
def yX4_isFull : MethodName := ⟨RX4, "isFull", "()Z"⟩
abbrev cX4_addNew : ByteArray := prog_6_method_5_code
def yX4_addNew : MethodName := ⟨RX4, "addNew", "(IIII)I"⟩
abbrev cX4_replace : ByteArray := prog_6_method_6_code
def yX4_replace : MethodName := ⟨RX4, "replace", "(LGlassRacks$Order;)V"⟩
abbrev cX4_openOnes : ByteArray := prog_6_method_7_code
def yX4_openOnes : MethodName := ⟨RX4, "openOnes", "()I"⟩
abbrev cX4_lateOnes : ByteArray := prog_6_method_8_code
def yX4_lateOnes : MethodName := ⟨RX4, "lateOnes", "(I)I"⟩
abbrev cX4_nextOpen : ByteArray := prog_6_method_9_code
def yX4_nextOpen : MethodName := ⟨RX4, "nextOpen", "(LGlassRacks$Order;)LGlassRacks$Order;"⟩
abbrev cX4_openAtRank : ByteArray := prog_6_method_10_code
def yX4_openAtRank : MethodName := ⟨RX4, "openAtRank", "(I)LGlassRacks$Order;"⟩
def RX5 : String := "GlassRacks$Racks"
def TX5 : u_T := fun k => match k with
  | 0 => ("GlassRacks$Racks", "slots", "[LGlassRacks$Sheet;", true)
  | _ => ("GlassRacks$Racks", "sheetsMade", "I", false)
def tyX5 : Nat → FieldType := fun k => match k with
  | 0 => .array (.object "GlassRacks$Sheet")
  | _ => .int
abbrev wsX50 : List Cond := u_ws RX5 TX5 2
theorem nmX5 : ∀ a, a < 2 → ∀ b, b < 2 → a ≠ b → (TX5 a).2.1 ≠ (TX5 b).2.1 := by decide +kernel
theorem tyX5_ok : ∀ k, k < 2 → parseFieldDescriptor (TX5 k).2.2.1 = some (tyX5 k) := by decide +kernel
abbrev cX5_init : ByteArray := prog_7_method_1_code
def yX5_init : MethodName := ⟨RX5, "<init>", "()V"⟩
abbrev cX5_copyFrom : ByteArray := prog_7_method_2_code
def yX5_copyFrom : MethodName := ⟨RX5, "copyFrom", "(LGlassRacks$Racks;)V"⟩
abbrev cX5_inSlot : ByteArray := prog_7_method_3_code
def yX5_inSlot : MethodName := ⟨RX5, "inSlot", "(I)LGlassRacks$Sheet;"⟩
abbrev cX5_slotOf : ByteArray := prog_7_method_4_code
def yX5_slotOf : MethodName := ⟨RX5, "slotOf", "(I)I"⟩
abbrev cX5_filled : ByteArray := prog_7_method_5_code
def yX5_filled : MethodName := ⟨RX5, "filled", "(I)I"⟩
abbrev cX5_isFull : ByteArray := prog_7_method_6_code
def yX5_isFull : MethodName := ⟨RX5, "isFull", "(I)Z"⟩
abbrev cX5_hasRoom : ByteArray := prog_7_method_7_code
def yX5_hasRoom : MethodName := ⟨RX5, "hasRoom", "(I)Z"⟩
abbrev cX5_sheetsBefore : ByteArray := prog_7_method_8_code
def yX5_sheetsBefore : MethodName := ⟨RX5, "sheetsBefore", "(I)I"⟩
abbrev cX5_atPlace : ByteArray := prog_7_method_9_code
def yX5_atPlace : MethodName := ⟨RX5, "atPlace", "(II)LGlassRacks$Sheet;"⟩
abbrev cX5_addNew : ByteArray := prog_7_method_10_code
def yX5_addNew : MethodName := ⟨RX5, "addNew", "(IIIII)I"⟩
abbrev cX5_putInFront : ByteArray := prog_7_method_11_code
def yX5_putInFront : MethodName := ⟨RX5, "putInFront", "(LGlassRacks$Sheet;I)V"⟩
abbrev cX5_removeFrom : ByteArray := prog_7_method_12_code
def yX5_removeFrom : MethodName := ⟨RX5, "removeFrom", "(I)V"⟩
abbrev cX5_sheetsThere : ByteArray := prog_7_method_13_code
def yX5_sheetsThere : MethodName := ⟨RX5, "sheetsThere", "()I"⟩
abbrev cX5_areaThere : ByteArray := prog_7_method_14_code
def yX5_areaThere : MethodName := ⟨RX5, "areaThere", "()I"⟩
def RX6 : String := "GlassRacks$Settings"
def TX6 : u_T := fun k => match k with
  | 0 => ("GlassRacks$Settings", "cutWidth", "I", false)
  | 1 => ("GlassRacks$Settings", "leastSide", "I", false)
  | 2 => ("GlassRacks$Settings", "manner", "I", false)
  | 3 => ("GlassRacks$Settings", "fragility", "I", false)
  | _ => ("GlassRacks$Settings", "turning", "I", false)
def tyX6 : Nat → FieldType := fun k => match k with
  | 0 => .int
  | 1 => .int
  | 2 => .int
  | 3 => .int
  | _ => .int
abbrev wsX60 : List Cond := u_ws RX6 TX6 5
theorem nmX6 : ∀ a, a < 5 → ∀ b, b < 5 → a ≠ b → (TX6 a).2.1 ≠ (TX6 b).2.1 := by decide +kernel
theorem tyX6_ok : ∀ k, k < 5 → parseFieldDescriptor (TX6 k).2.2.1 = some (tyX6 k) := by decide +kernel
abbrev cX6_init : ByteArray := prog_8_method_1_code
def yX6_init : MethodName := ⟨RX6, "<init>", "()V"⟩
abbrev cX6_copyFrom : ByteArray := prog_8_method_2_code
def yX6_copyFrom : MethodName := ⟨RX6, "copyFrom", "(LGlassRacks$Settings;)V"⟩
abbrev cX6_change : ByteArray := prog_8_method_3_code
def yX6_change : MethodName := ⟨RX6, "change", "(II)I"⟩
abbrev cX6_value : ByteArray := prog_8_method_4_code
def yX6_value : MethodName := ⟨RX6, "value", "(I)I"⟩
abbrev cX6_put : ByteArray := prog_8_method_5_code
def yX6_put : MethodName := ⟨RX6, "put", "(II)V"⟩
abbrev cX6_isAllowed : ByteArray := prog_8_method_6_code
def yX6_isAllowed : MethodName := ⟨RX6, "isAllowed", "(II)Z"⟩
def RX7 : String := "GlassRacks$Sheet"
def TX7 : u_T := fun k => match k with
  | 0 => ("GlassRacks$Sheet", "number", "I", true)
  | 1 => ("GlassRacks$Sheet", "sort", "I", true)
  | 2 => ("GlassRacks$Sheet", "width", "I", true)
  | 3 => ("GlassRacks$Sheet", "height", "I", true)
  | _ => ("GlassRacks$Sheet", "source", "I", true)
def tyX7 : Nat → FieldType := fun k => match k with
  | 0 => .int
  | 1 => .int
  | 2 => .int
  | 3 => .int
  | _ => .int
abbrev wsX70 : List Cond := u_ws RX7 TX7 5
theorem nmX7 : ∀ a, a < 5 → ∀ b, b < 5 → a ≠ b → (TX7 a).2.1 ≠ (TX7 b).2.1 := by decide +kernel
theorem tyX7_ok : ∀ k, k < 5 → parseFieldDescriptor (TX7 k).2.2.1 = some (tyX7 k) := by decide +kernel
abbrev cX7_init : ByteArray := prog_9_method_1_code
def yX7_init : MethodName := ⟨RX7, "<init>", "(IIIII)V"⟩
abbrev cX7_area : ByteArray := prog_9_method_2_code
def yX7_area : MethodName := ⟨RX7, "area", "()I"⟩
def RX8 : String := "GlassRacks$State"
def TX8 : u_T := fun k => match k with
  | 0 => ("GlassRacks$State", "settings", "LGlassRacks$Settings;", true)
  | 1 => ("GlassRacks$State", "racks", "LGlassRacks$Racks;", true)
  | 2 => ("GlassRacks$State", "orders", "LGlassRacks$Orders;", true)
  | 3 => ("GlassRacks$State", "cutting", "LGlassRacks$Cutting;", true)
  | 4 => ("GlassRacks$State", "day", "I", false)
  | 5 => ("GlassRacks$State", "boughtArea", "I", false)
  | 6 => ("GlassRacks$State", "paneArea", "I", false)
  | 7 => ("GlassRacks$State", "scrapArea", "I", false)
  | 8 => ("GlassRacks$State", "brokenArea", "I", false)
  | 9 => ("GlassRacks$State", "lostArea", "I", false)
  | _ => ("GlassRacks$State", "liftings", "I", false)
def tyX8 : Nat → FieldType := fun k => match k with
  | 0 => .object "GlassRacks$Settings"
  | 1 => .object "GlassRacks$Racks"
  | 2 => .object "GlassRacks$Orders"
  | 3 => .object "GlassRacks$Cutting"
  | 4 => .int
  | 5 => .int
  | 6 => .int
  | 7 => .int
  | 8 => .int
  | 9 => .int
  | _ => .int
abbrev wsX80 : List Cond := u_ws RX8 TX8 11
theorem nmX8 : ∀ a, a < 11 → ∀ b, b < 11 → a ≠ b → (TX8 a).2.1 ≠ (TX8 b).2.1 := by decide +kernel
theorem tyX8_ok : ∀ k, k < 11 → parseFieldDescriptor (TX8 k).2.2.1 = some (tyX8 k) := by decide +kernel
abbrev cX8_init : ByteArray := prog_10_method_1_code
def yX8_init : MethodName := ⟨RX8, "<init>", "()V"⟩
abbrev cX8_copyFrom : ByteArray := prog_10_method_2_code
def yX8_copyFrom : MethodName := ⟨RX8, "copyFrom", "(LGlassRacks$State;)V"⟩
abbrev cX8_buySheet : ByteArray := prog_10_method_3_code
def yX8_buySheet : MethodName := ⟨RX8, "buySheet", "(IIII)I"⟩
abbrev cX8_moveSheet : ByteArray := prog_10_method_4_code
def yX8_moveSheet : MethodName := ⟨RX8, "moveSheet", "(II)I"⟩
abbrev cX8_scrapSheet : ByteArray := prog_10_method_5_code
def yX8_scrapSheet : MethodName := ⟨RX8, "scrapSheet", "(I)I"⟩
abbrev cX8_takeOrder : ByteArray := prog_10_method_6_code
def yX8_takeOrder : MethodName := ⟨RX8, "takeOrder", "(IIII)I"⟩
abbrev cX8_cancelOrder : ByteArray := prog_10_method_7_code
def yX8_cancelOrder : MethodName := ⟨RX8, "cancelOrder", "(I)I"⟩
abbrev cX8_cutOrder : ByteArray := prog_10_method_8_code
def yX8_cutOrder : MethodName := ⟨RX8, "cutOrder", "(II)I"⟩
abbrev cX8_planDay : ByteArray := prog_10_method_9_code
def yX8_planDay : MethodName := ⟨RX8, "planDay", "(I)I"⟩
abbrev cX8_passDays : ByteArray := prog_10_method_10_code
def yX8_passDays : MethodName := ⟨RX8, "passDays", "(I)I"⟩
abbrev cX8_chosenSheet : ByteArray := prog_10_method_11_code
def yX8_chosenSheet : MethodName := ⟨RX8, "chosenSheet", "(LGlassRacks$Order;I)LGlassRacks$Sheet;"⟩
abbrev cX8_measureOf : ByteArray := prog_10_method_12_code
def yX8_measureOf : MethodName := ⟨RX8, "measureOf", "(LGlassRacks$Sheet;II)I"⟩
abbrev cX8_cutOpenOrder : ByteArray := prog_10_method_13_code
def yX8_cutOpenOrder : MethodName := ⟨RX8, "cutOpenOrder", "(LGlassRacks$Order;LGlassRacks$Sheet;)I"⟩
abbrev cX8_keepOrScrap : ByteArray := prog_10_method_14_code
def yX8_keepOrScrap : MethodName := ⟨RX8, "keepOrScrap", "(IILGlassRacks$Sheet;I)I"⟩
abbrev cX8_takeOut : ByteArray := prog_10_method_15_code
def yX8_takeOut : MethodName := ⟨RX8, "takeOut", "(I)Z"⟩
abbrev cX8_breakSheet : ByteArray := prog_10_method_16_code
def yX8_breakSheet : MethodName := ⟨RX8, "breakSheet", "(I)V"⟩
def RX9 : String := "GlassRacks"
def TX9 : u_T := fun k => match k with
  | 0 => ("GlassRacks", "now", "LGlassRacks$State;", true)
  | 1 => ("GlassRacks", "before", "LGlassRacks$State;", true)
  | 2 => ("GlassRacks", "snapshot", "LGlassRacks$State;", true)
  | 3 => ("GlassRacks", "snapshotTaken", "Z", false)
  | 4 => ("GlassRacks", "history", "LGlassRacks$History;", true)
  | _ => ("GlassRacks", "text", "LGlassRacks$CommandText;", true)
def tyX9 : Nat → FieldType := fun k => match k with
  | 0 => .object "GlassRacks$State"
  | 1 => .object "GlassRacks$State"
  | 2 => .object "GlassRacks$State"
  | 3 => .boolean
  | 4 => .object "GlassRacks$History"
  | _ => .object "GlassRacks$CommandText"
abbrev wsX90 : List Cond := u_ws RX9 TX9 6
theorem nmX9 : ∀ a, a < 6 → ∀ b, b < 6 → a ≠ b → (TX9 a).2.1 ≠ (TX9 b).2.1 := by decide +kernel
theorem tyX9_ok : ∀ k, k < 6 → parseFieldDescriptor (TX9 k).2.2.1 = some (tyX9 k) := by decide +kernel
abbrev cX9_init : ByteArray := prog_1_method_1_code
def yX9_init : MethodName := ⟨RX9, "<init>", "()V"⟩
abbrev cX9_set : ByteArray := prog_1_method_2_code
def yX9_set : MethodName := ⟨RX9, "set", "(II)I"⟩
abbrev cX9_buy : ByteArray := prog_1_method_3_code
def yX9_buy : MethodName := ⟨RX9, "buy", "(IIII)I"⟩
abbrev cX9_move : ByteArray := prog_1_method_4_code
def yX9_move : MethodName := ⟨RX9, "move", "(II)I"⟩
abbrev cX9_scrap : ByteArray := prog_1_method_5_code
def yX9_scrap : MethodName := ⟨RX9, "scrap", "(I)I"⟩
abbrev cX9_order : ByteArray := prog_1_method_6_code
def yX9_order : MethodName := ⟨RX9, "order", "(IIII)I"⟩
abbrev cX9_cancel : ByteArray := prog_1_method_7_code
def yX9_cancel : MethodName := ⟨RX9, "cancel", "(I)I"⟩
abbrev cX9_cut : ByteArray := prog_1_method_8_code
def yX9_cut : MethodName := ⟨RX9, "cut", "(II)I"⟩
abbrev cX9_plan : ByteArray := prog_1_method_9_code
def yX9_plan : MethodName := ⟨RX9, "plan", "(I)I"⟩
abbrev cX9_pass : ByteArray := prog_1_method_10_code
def yX9_pass : MethodName := ⟨RX9, "pass", "(I)I"⟩
abbrev cX9_perform : ByteArray := prog_1_method_11_code
def yX9_perform : MethodName := ⟨RX9, "perform", "()I"⟩
abbrev cX9_type : ByteArray := prog_1_method_12_code
def yX9_type : MethodName := ⟨RX9, "type", "(C)I"⟩
abbrev cX9_clearText : ByteArray := prog_1_method_13_code
def yX9_clearText : MethodName := ⟨RX9, "clearText", "()I"⟩
abbrev cX9_undo : ByteArray := prog_1_method_14_code
def yX9_undo : MethodName := ⟨RX9, "undo", "()I"⟩
abbrev cX9_keep : ByteArray := prog_1_method_15_code
def yX9_keep : MethodName := ⟨RX9, "keep", "()I"⟩
abbrev cX9_restore : ByteArray := prog_1_method_16_code
def yX9_restore : MethodName := ⟨RX9, "restore", "()I"⟩
abbrev cX9_sheet : ByteArray := prog_1_method_17_code
def yX9_sheet : MethodName := ⟨RX9, "sheet", "(II)I"⟩
abbrev cX9_at : ByteArray := prog_1_method_18_code
def yX9_at : MethodName := ⟨RX9, "at", "(II)I"⟩
abbrev cX9_ordered : ByteArray := prog_1_method_19_code
def yX9_ordered : MethodName := ⟨RX9, "ordered", "(II)I"⟩
abbrev cX9_would : ByteArray := prog_1_method_20_code
def yX9_would : MethodName := ⟨RX9, "would", "(III)I"⟩
abbrev cX9_choice : ByteArray := prog_1_method_21_code
def yX9_choice : MethodName := ⟨RX9, "choice", "(II)I"⟩
abbrev cX9_next : ByteArray := prog_1_method_22_code
def yX9_next : MethodName := ⟨RX9, "next", "(I)I"⟩
abbrev cX9_wouldPlan : ByteArray := prog_1_method_23_code
def yX9_wouldPlan : MethodName := ⟨RX9, "wouldPlan", "(II)I"⟩
abbrev cX9_count : ByteArray := prog_1_method_24_code
def yX9_count : MethodName := ⟨RX9, "count", "(I)I"⟩
abbrev cX9_recorded : ByteArray := prog_1_method_25_code
def yX9_recorded : MethodName := ⟨RX9, "recorded", "(I)I"⟩
abbrev cX9_runCommand : ByteArray := prog_1_method_26_code
def yX9_runCommand : MethodName := ⟨RX9, "runCommand", "()I"⟩
abbrev cX9_isRack : ByteArray := prog_1_method_27_code
def yX9_isRack : MethodName := ⟨RX9, "isRack", "(I)Z"⟩
abbrev cX9_isSort : ByteArray := prog_1_method_28_code
def yX9_isSort : MethodName := ⟨RX9, "isSort", "(I)Z"⟩
abbrev cX9_isChoice : ByteArray := prog_1_method_29_code
def yX9_isChoice : MethodName := ⟨RX9, "isChoice", "(I)Z"⟩
abbrev cX9_isSide : ByteArray := prog_1_method_30_code
def yX9_isSide : MethodName := ⟨RX9, "isSide", "(I)Z"⟩
def RX10 : String := "GlassRacksModel"
def TX10 : u_T := fun k => match k with
  | 0 => ("GlassRacksModel", "now", "[I", true)
  | 1 => ("GlassRacksModel", "spare", "[I", true)
  | 2 => ("GlassRacksModel", "slot", "[I", true)
  | 3 => ("GlassRacksModel", "history", "[I", true)
  | 4 => ("GlassRacksModel", "text", "[I", true)
  | 5 => ("GlassRacksModel", "kept", "I", false)
  | 6 => ("GlassRacksModel", "length", "I", false)
  | 7 => ("GlassRacksModel", "isFilled", "Z", false)
  | _ => ("GlassRacksModel", "at", "I", false)
def tyX10 : Nat → FieldType := fun k => match k with
  | 0 => .array .int
  | 1 => .array .int
  | 2 => .array .int
  | 3 => .array .int
  | 4 => .array .int
  | 5 => .int
  | 6 => .int
  | 7 => .boolean
  | _ => .int
abbrev wsX100 : List Cond := u_ws RX10 TX10 9
theorem nmX10 : ∀ a, a < 9 → ∀ b, b < 9 → a ≠ b → (TX10 a).2.1 ≠ (TX10 b).2.1 := by decide +kernel
theorem tyX10_ok : ∀ k, k < 9 → parseFieldDescriptor (TX10 k).2.2.1 = some (tyX10 k) := by decide +kernel
abbrev cX10_init : ByteArray := prog_12_method_1_code
def yX10_init : MethodName := ⟨RX10, "<init>", "()V"⟩
abbrev cX10_in : ByteArray := prog_12_method_2_code
def yX10_in : MethodName := ⟨RX10, "in", "(III)Z"⟩
abbrev cX10_copy : ByteArray := prog_12_method_3_code
def yX10_copy : MethodName := ⟨RX10, "copy", "([I[I)V"⟩
abbrev cX10_record : ByteArray := prog_12_method_4_code
def yX10_record : MethodName := ⟨RX10, "record", "([I)V"⟩
abbrev cX10_setting : ByteArray := prog_12_method_5_code
def yX10_setting : MethodName := ⟨RX10, "setting", "(I)I"⟩
abbrev cX10_many : ByteArray := prog_12_method_6_code
def yX10_many : MethodName := ⟨RX10, "many", "(I)I"⟩
abbrev cX10_standing : ByteArray := prog_12_method_7_code
def yX10_standing : MethodName := ⟨RX10, "standing", "(II)I"⟩
abbrev cX10_its : ByteArray := prog_12_method_8_code
def yX10_its : MethodName := ⟨RX10, "its", "(II)I"⟩
abbrev cX10_area : ByteArray := prog_12_method_9_code
def yX10_area : MethodName := ⟨RX10, "area", "(I)I"⟩
abbrev cX10_isSheet : ByteArray := prog_12_method_10_code
def yX10_isSheet : MethodName := ⟨RX10, "isSheet", "(I)Z"⟩
abbrev cX10_before : ByteArray := prog_12_method_11_code
def yX10_before : MethodName := ⟨RX10, "before", "(I)I"⟩
abbrev cX10_leans : ByteArray := prog_12_method_12_code
def yX10_leans : MethodName := ⟨RX10, "leans", "(II)V"⟩
abbrev cX10_makes : ByteArray := prog_12_method_13_code
def yX10_makes : MethodName := ⟨RX10, "makes", "(IIIII)I"⟩
abbrev cX10_breaks : ByteArray := prog_12_method_14_code
def yX10_breaks : MethodName := ⟨RX10, "breaks", "(I)Z"⟩
abbrev cX10_takes : ByteArray := prog_12_method_15_code
def yX10_takes : MethodName := ⟨RX10, "takes", "(I)Z"⟩
abbrev cX10_of : ByteArray := prog_12_method_16_code
def yX10_of : MethodName := ⟨RX10, "of", "(II)I"⟩
abbrev cX10_isOrder : ByteArray := prog_12_method_17_code
def yX10_isOrder : MethodName := ⟨RX10, "isOrder", "(I)Z"⟩
abbrev cX10_isOpen : ByteArray := prog_12_method_18_code
def yX10_isOpen : MethodName := ⟨RX10, "isOpen", "(I)Z"⟩
abbrev cX10_isLate : ByteArray := prog_12_method_19_code
def yX10_isLate : MethodName := ⟨RX10, "isLate", "(I)Z"⟩
abbrev cX10_lies : ByteArray := prog_12_method_20_code
def yX10_lies : MethodName := ⟨RX10, "lies", "(II)I"⟩
abbrev cX10_piece : ByteArray := prog_12_method_21_code
def yX10_piece : MethodName := ⟨RX10, "piece", "(IIII)I"⟩
abbrev cX10_pieceArea : ByteArray := prog_12_method_22_code
def yX10_pieceArea : MethodName := ⟨RX10, "pieceArea", "(III)I"⟩
abbrev cX10_keeps : ByteArray := prog_12_method_23_code
def yX10_keeps : MethodName := ⟨RX10, "keeps", "(III)Z"⟩
abbrev cX10_keptArea : ByteArray := prog_12_method_24_code
def yX10_keptArea : MethodName := ⟨RX10, "keptArea", "(II)I"⟩
abbrev cX10_scrapArea : ByteArray := prog_12_method_25_code
def yX10_scrapArea : MethodName := ⟨RX10, "scrapArea", "(II)I"⟩
abbrev cX10_cuts : ByteArray := prog_12_method_26_code
def yX10_cuts : MethodName := ⟨RX10, "cuts", "(II)I"⟩
abbrev cX10_goes : ByteArray := prog_12_method_27_code
def yX10_goes : MethodName := ⟨RX10, "goes", "(III)I"⟩
abbrev cX10_chosen : ByteArray := prog_12_method_28_code
def yX10_chosen : MethodName := ⟨RX10, "chosen", "(II)I"⟩
abbrev cX10_isAhead : ByteArray := prog_12_method_29_code
def yX10_isAhead : MethodName := ⟨RX10, "isAhead", "(II)Z"⟩
abbrev cX10_first : ByteArray := prog_12_method_30_code
def yX10_first : MethodName := ⟨RX10, "first", "(I)I"⟩
abbrev cX10_open : ByteArray := prog_12_method_31_code
def yX10_open : MethodName := ⟨RX10, "open", "()I"⟩
abbrev cX10_late : ByteArray := prog_12_method_32_code
def yX10_late : MethodName := ⟨RX10, "late", "()I"⟩
abbrev cX10_plans : ByteArray := prog_12_method_33_code
def yX10_plans : MethodName := ⟨RX10, "plans", "(I)I"⟩
abbrev cX10_set : ByteArray := prog_12_method_34_code
def yX10_set : MethodName := ⟨RX10, "set", "(II)I"⟩
abbrev cX10_buys : ByteArray := prog_12_method_35_code
def yX10_buys : MethodName := ⟨RX10, "buys", "(IIII)I"⟩
abbrev cX10_buy : ByteArray := prog_12_method_36_code
def yX10_buy : MethodName := ⟨RX10, "buy", "(IIII)I"⟩
abbrev cX10_move : ByteArray := prog_12_method_37_code
def yX10_move : MethodName := ⟨RX10, "move", "(II)I"⟩
abbrev cX10_scrap : ByteArray := prog_12_method_38_code
def yX10_scrap : MethodName := ⟨RX10, "scrap", "(I)I"⟩
abbrev cX10_orders : ByteArray := prog_12_method_39_code
def yX10_orders : MethodName := ⟨RX10, "orders", "(IIII)I"⟩
abbrev cX10_order : ByteArray := prog_12_method_40_code
def yX10_order : MethodName := ⟨RX10, "order", "(IIII)I"⟩
abbrev cX10_cancel : ByteArray := prog_12_method_41_code
def yX10_cancel : MethodName := ⟨RX10, "cancel", "(I)I"⟩
abbrev cX10_cut : ByteArray := prog_12_method_42_code
def yX10_cut : MethodName := ⟨RX10, "cut", "(II)I"⟩
abbrev cX10_plan : ByteArray := prog_12_method_43_code
def yX10_plan : MethodName := ⟨RX10, "plan", "(I)I"⟩
abbrev cX10_passes : ByteArray := prog_12_method_44_code
def yX10_passes : MethodName := ⟨RX10, "passes", "(I)I"⟩
abbrev cX10_pass : ByteArray := prog_12_method_45_code
def yX10_pass : MethodName := ⟨RX10, "pass", "(I)I"⟩
abbrev cX10_stands : ByteArray := prog_12_method_46_code
def yX10_stands : MethodName := ⟨RX10, "stands", "(I)Z"⟩
abbrev cX10_number : ByteArray := prog_12_method_47_code
def yX10_number : MethodName := ⟨RX10, "number", "(II)I"⟩
abbrev cX10_command : ByteArray := prog_12_method_48_code
def yX10_command : MethodName := ⟨RX10, "command", "(Z)I"⟩
abbrev cX10_commands : ByteArray := prog_12_method_49_code
def yX10_commands : MethodName := ⟨RX10, "commands", "()I"⟩
abbrev cX10_perform : ByteArray := prog_12_method_50_code
def yX10_perform : MethodName := ⟨RX10, "perform", "()I"⟩
abbrev cX10_type : ByteArray := prog_12_method_51_code
def yX10_type : MethodName := ⟨RX10, "type", "(C)I"⟩
abbrev cX10_clearText : ByteArray := prog_12_method_52_code
def yX10_clearText : MethodName := ⟨RX10, "clearText", "()I"⟩
abbrev cX10_undo : ByteArray := prog_12_method_53_code
def yX10_undo : MethodName := ⟨RX10, "undo", "()I"⟩
abbrev cX10_keep : ByteArray := prog_12_method_54_code
def yX10_keep : MethodName := ⟨RX10, "keep", "()I"⟩
abbrev cX10_restore : ByteArray := prog_12_method_55_code
def yX10_restore : MethodName := ⟨RX10, "restore", "()I"⟩
abbrev cX10_sheet : ByteArray := prog_12_method_56_code
def yX10_sheet : MethodName := ⟨RX10, "sheet", "(II)I"⟩
abbrev cX10_at : ByteArray := prog_12_method_57_code
def yX10_at : MethodName := ⟨RX10, "at", "(II)I"⟩
abbrev cX10_ordered : ByteArray := prog_12_method_58_code
def yX10_ordered : MethodName := ⟨RX10, "ordered", "(II)I"⟩
abbrev cX10_would : ByteArray := prog_12_method_59_code
def yX10_would : MethodName := ⟨RX10, "would", "(III)I"⟩
abbrev cX10_choice : ByteArray := prog_12_method_60_code
def yX10_choice : MethodName := ⟨RX10, "choice", "(II)I"⟩
abbrev cX10_next : ByteArray := prog_12_method_61_code
def yX10_next : MethodName := ⟨RX10, "next", "(I)I"⟩
abbrev cX10_wouldPlan : ByteArray := prog_12_method_62_code
def yX10_wouldPlan : MethodName := ⟨RX10, "wouldPlan", "(II)I"⟩
abbrev cX10_count : ByteArray := prog_12_method_63_code
def yX10_count : MethodName := ⟨RX10, "count", "(I)I"⟩
def RJ9 : String := "java/lang/Math"
def TJ9 : u_T := fun k => match k with
  | _ => ("", "", "", false)
def tyJ9 : Nat → FieldType := fun k => match k with
  | _ => .int
abbrev wsJ90 : List Cond := u_ws RJ9 TJ9 0
theorem nmJ9 : ∀ a, a < 0 → ∀ b, b < 0 → a ≠ b → (TJ9 a).2.1 ≠ (TJ9 b).2.1 := by decide +kernel
theorem tyJ9_ok : ∀ k, k < 0 → parseFieldDescriptor (TJ9 k).2.2.1 = some (tyJ9 k) := by decide +kernel
abbrev cJ9_max_7cf53 : ByteArray := prog_13_method_65_code
def yJ9_max_7cf53 : MethodName := ⟨RJ9, "max", "(II)I"⟩
def RL : String := "GlassRacksLaw"
abbrev cL_law : ByteArray := code
def yL_law : MethodName := ⟨RL, "law", "([I)Z"⟩
theorem inJ9 : ∀ w ∈ wsJ90, w ∈ lw_tbl := by decide +kernel
abbrev vwCl : List vw_C := [(RX0, TX0, 12), (RX1, TX1, 10), (RX2, TX2, 2), (RX3, TX3, 8), (RX4, TX4, 2), (RX5, TX5, 2), (RX6, TX6, 5), (RX7, TX7, 5), (RX8, TX8, 11), (RX9, TX9, 6), (RX10, TX10, 9)]
