-- ===== PART A: goes FIRST, ahead of the names: the tables' words, and 'selects' of the private methods out of them =====
/-- a private method of a class that the tables say can be made, by its rows of tables_1 -/
def lw_okq (q : MethodName × Nat) : Prop := (q.1.cls ≠ "java/lang/invoke/MethodHandle" ∧ q.1.cls ≠ "java/lang/invoke/VarHandle") ∧ Cond.instantiable q.1.cls q.2 ∈ tables_1 ∧ Cond.privateMethod q.1 ∈ tables_1 ∧ Cond.instanceMethod q.1 ∈ tables_1
theorem lw_p0 : lw_okq (⟨"QueryStore", "statementsKept", "()I"⟩, 13) := ⟨⟨by decide +kernel, by decide +kernel⟩, List.mem_of_getElem? (i := 25) (by decide +kernel), List.mem_of_getElem? (i := 254) (by decide +kernel), List.mem_of_getElem? (i := 255) (by decide +kernel)⟩
theorem lw_p1 : lw_okq (⟨"java/lang/Throwable", "fillInStackTrace", "(I)Ljava/lang/Throwable;"⟩, 6) := ⟨⟨by decide +kernel, by decide +kernel⟩, List.mem_of_getElem? (i := 329) (by decide +kernel), List.mem_of_getElem? (i := 327) (by decide +kernel), List.mem_of_getElem? (i := 328) (by decide +kernel)⟩
theorem lw_p2 : lw_okq (⟨"QueryStore$Reader", "readHead", "()V"⟩, 7) := ⟨⟨by decide +kernel, by decide +kernel⟩, List.mem_of_getElem? (i := 35) (by decide +kernel), List.mem_of_getElem? (i := 389) (by decide +kernel), List.mem_of_getElem? (i := 390) (by decide +kernel)⟩
theorem lw_p3 : lw_okq (⟨"QueryStore$Reader", "take", "(Ljava/lang/String;)C"⟩, 7) := ⟨⟨by decide +kernel, by decide +kernel⟩, List.mem_of_getElem? (i := 35) (by decide +kernel), List.mem_of_getElem? (i := 394) (by decide +kernel), List.mem_of_getElem? (i := 395) (by decide +kernel)⟩
theorem lw_p4 : lw_okq (⟨"QueryStore$Reader", "refuse", "()V"⟩, 7) := ⟨⟨by decide +kernel, by decide +kernel⟩, List.mem_of_getElem? (i := 35) (by decide +kernel), List.mem_of_getElem? (i := 484) (by decide +kernel), List.mem_of_getElem? (i := 485) (by decide +kernel)⟩
theorem lw_p5 : lw_okq (⟨"QueryStore$Reader", "readNewRow", "()V"⟩, 7) := ⟨⟨by decide +kernel, by decide +kernel⟩, List.mem_of_getElem? (i := 35) (by decide +kernel), List.mem_of_getElem? (i := 491) (by decide +kernel), List.mem_of_getElem? (i := 492) (by decide +kernel)⟩
theorem lw_p6 : lw_okq (⟨"QueryStore$Reader", "readSum", "(II)V"⟩, 7) := ⟨⟨by decide +kernel, by decide +kernel⟩, List.mem_of_getElem? (i := 35) (by decide +kernel), List.mem_of_getElem? (i := 496) (by decide +kernel), List.mem_of_getElem? (i := 497) (by decide +kernel)⟩
theorem lw_p7 : lw_okq (⟨"QueryStore$Reader", "readTerm", "(II)V"⟩, 7) := ⟨⟨by decide +kernel, by decide +kernel⟩, List.mem_of_getElem? (i := 35) (by decide +kernel), List.mem_of_getElem? (i := 500) (by decide +kernel), List.mem_of_getElem? (i := 501) (by decide +kernel)⟩
theorem lw_p8 : lw_okq (⟨"QueryStore$Reader", "readUnit", "(II)V"⟩, 7) := ⟨⟨by decide +kernel, by decide +kernel⟩, List.mem_of_getElem? (i := 35) (by decide +kernel), List.mem_of_getElem? (i := 504) (by decide +kernel), List.mem_of_getElem? (i := 505) (by decide +kernel)⟩
theorem lw_p9 : lw_okq (⟨"QueryStore$Reader", "sees", "(Ljava/lang/String;)Z"⟩, 7) := ⟨⟨by decide +kernel, by decide +kernel⟩, List.mem_of_getElem? (i := 35) (by decide +kernel), List.mem_of_getElem? (i := 509) (by decide +kernel), List.mem_of_getElem? (i := 510) (by decide +kernel)⟩
theorem lw_p10 : lw_okq (⟨"QueryStore$Reader", "takeNumber", "()I"⟩, 7) := ⟨⟨by decide +kernel, by decide +kernel⟩, List.mem_of_getElem? (i := 35) (by decide +kernel), List.mem_of_getElem? (i := 513) (by decide +kernel), List.mem_of_getElem? (i := 514) (by decide +kernel)⟩
theorem lw_p11 : lw_okq (⟨"QueryStore$Reader", "readChange", "()V"⟩, 7) := ⟨⟨by decide +kernel, by decide +kernel⟩, List.mem_of_getElem? (i := 35) (by decide +kernel), List.mem_of_getElem? (i := 530) (by decide +kernel), List.mem_of_getElem? (i := 531) (by decide +kernel)⟩
theorem lw_p12 : lw_okq (⟨"QueryStore$Reader", "readFold", "()V"⟩, 7) := ⟨⟨by decide +kernel, by decide +kernel⟩, List.mem_of_getElem? (i := 35) (by decide +kernel), List.mem_of_getElem? (i := 536) (by decide +kernel), List.mem_of_getElem? (i := 537) (by decide +kernel)⟩
theorem lw_p13 : lw_okq (⟨"QueryStore$Reader", "readList", "()V"⟩, 7) := ⟨⟨by decide +kernel, by decide +kernel⟩, List.mem_of_getElem? (i := 35) (by decide +kernel), List.mem_of_getElem? (i := 541) (by decide +kernel), List.mem_of_getElem? (i := 542) (by decide +kernel)⟩
theorem lw_p14 : lw_okq (⟨"QueryStore$Reader", "readCondition", "()V"⟩, 7) := ⟨⟨by decide +kernel, by decide +kernel⟩, List.mem_of_getElem? (i := 35) (by decide +kernel), List.mem_of_getElem? (i := 546) (by decide +kernel), List.mem_of_getElem? (i := 547) (by decide +kernel)⟩
theorem lw_p15 : lw_okq (⟨"QueryStore$Reader", "readOrder", "()V"⟩, 7) := ⟨⟨by decide +kernel, by decide +kernel⟩, List.mem_of_getElem? (i := 35) (by decide +kernel), List.mem_of_getElem? (i := 559) (by decide +kernel), List.mem_of_getElem? (i := 560) (by decide +kernel)⟩
def lw_privs_1 : List (MethodName × Nat) := [(⟨"QueryStore", "statementsKept", "()I"⟩, 13), (⟨"java/lang/Throwable", "fillInStackTrace", "(I)Ljava/lang/Throwable;"⟩, 6), (⟨"QueryStore$Reader", "readHead", "()V"⟩, 7), (⟨"QueryStore$Reader", "take", "(Ljava/lang/String;)C"⟩, 7), (⟨"QueryStore$Reader", "refuse", "()V"⟩, 7), (⟨"QueryStore$Reader", "readNewRow", "()V"⟩, 7), (⟨"QueryStore$Reader", "readSum", "(II)V"⟩, 7), (⟨"QueryStore$Reader", "readTerm", "(II)V"⟩, 7), (⟨"QueryStore$Reader", "readUnit", "(II)V"⟩, 7), (⟨"QueryStore$Reader", "sees", "(Ljava/lang/String;)Z"⟩, 7), (⟨"QueryStore$Reader", "takeNumber", "()I"⟩, 7), (⟨"QueryStore$Reader", "readChange", "()V"⟩, 7), (⟨"QueryStore$Reader", "readFold", "()V"⟩, 7), (⟨"QueryStore$Reader", "readList", "()V"⟩, 7), (⟨"QueryStore$Reader", "readCondition", "()V"⟩, 7), (⟨"QueryStore$Reader", "readOrder", "()V"⟩, 7)]
theorem lw_r1 : ∀ q ∈ lw_privs_1, lw_okq q := List.forall_mem_cons.mpr ⟨lw_p0, List.forall_mem_cons.mpr ⟨lw_p1, List.forall_mem_cons.mpr ⟨lw_p2, List.forall_mem_cons.mpr ⟨lw_p3, List.forall_mem_cons.mpr ⟨lw_p4, List.forall_mem_cons.mpr ⟨lw_p5, List.forall_mem_cons.mpr ⟨lw_p6, List.forall_mem_cons.mpr ⟨lw_p7, List.forall_mem_cons.mpr ⟨lw_p8, List.forall_mem_cons.mpr ⟨lw_p9, List.forall_mem_cons.mpr ⟨lw_p10, List.forall_mem_cons.mpr ⟨lw_p11, List.forall_mem_cons.mpr ⟨lw_p12, List.forall_mem_cons.mpr ⟨lw_p13, List.forall_mem_cons.mpr ⟨lw_p14, List.forall_mem_cons.mpr ⟨lw_p15, fun _ h => absurd h List.not_mem_nil⟩⟩⟩⟩⟩⟩⟩⟩⟩⟩⟩⟩⟩⟩⟩⟩
theorem lw_p16 : lw_okq (⟨"QueryStore", "execute", "(LQueryStore$Code;I)I"⟩, 13) := ⟨⟨by decide +kernel, by decide +kernel⟩, List.mem_of_getElem? (i := 25) (by decide +kernel), List.mem_of_getElem? (i := 588) (by decide +kernel), List.mem_of_getElem? (i := 589) (by decide +kernel)⟩
theorem lw_p17 : lw_okq (⟨"QueryStore", "insert", "(LQueryStore$Code;)I"⟩, 13) := ⟨⟨by decide +kernel, by decide +kernel⟩, List.mem_of_getElem? (i := 25) (by decide +kernel), List.mem_of_getElem? (i := 600) (by decide +kernel), List.mem_of_getElem? (i := 601) (by decide +kernel)⟩
theorem lw_p18 : lw_okq (⟨"QueryStore$Machine", "carryOut", "(LQueryStore$Code;I)Z"⟩, 1) := ⟨⟨by decide +kernel, by decide +kernel⟩, List.mem_of_getElem? (i := 66) (by decide +kernel), List.mem_of_getElem? (i := 608) (by decide +kernel), List.mem_of_getElem? (i := 609) (by decide +kernel)⟩
theorem lw_p19 : lw_okq (⟨"QueryStore$Machine", "outcome", "(III)I"⟩, 1) := ⟨⟨by decide +kernel, by decide +kernel⟩, List.mem_of_getElem? (i := 66) (by decide +kernel), List.mem_of_getElem? (i := 612) (by decide +kernel), List.mem_of_getElem? (i := 613) (by decide +kernel)⟩
theorem lw_p20 : lw_okq (⟨"QueryStore$Machine", "compares", "(II)Z"⟩, 1) := ⟨⟨by decide +kernel, by decide +kernel⟩, List.mem_of_getElem? (i := 66) (by decide +kernel), List.mem_of_getElem? (i := 634) (by decide +kernel), List.mem_of_getElem? (i := 635) (by decide +kernel)⟩
theorem lw_p21 : lw_okq (⟨"QueryStore$Table", "pageFor", "(I)I"⟩, 3) := ⟨⟨by decide +kernel, by decide +kernel⟩, List.mem_of_getElem? (i := 172) (by decide +kernel), List.mem_of_getElem? (i := 646) (by decide +kernel), List.mem_of_getElem? (i := 647) (by decide +kernel)⟩
theorem lw_p22 : lw_okq (⟨"QueryStore$Table", "openPage", "(I)V"⟩, 3) := ⟨⟨by decide +kernel, by decide +kernel⟩, List.mem_of_getElem? (i := 172) (by decide +kernel), List.mem_of_getElem? (i := 669) (by decide +kernel), List.mem_of_getElem? (i := 670) (by decide +kernel)⟩
theorem lw_p23 : lw_okq (⟨"QueryStore$Page", "moveRows", "(III)V"⟩, 2) := ⟨⟨by decide +kernel, by decide +kernel⟩, List.mem_of_getElem? (i := 179) (by decide +kernel), List.mem_of_getElem? (i := 688) (by decide +kernel), List.mem_of_getElem? (i := 689) (by decide +kernel)⟩
theorem lw_p24 : lw_okq (⟨"QueryStore", "note", "(I)V"⟩, 13) := ⟨⟨by decide +kernel, by decide +kernel⟩, List.mem_of_getElem? (i := 25) (by decide +kernel), List.mem_of_getElem? (i := 696) (by decide +kernel), List.mem_of_getElem? (i := 697) (by decide +kernel)⟩
theorem lw_p25 : lw_okq (⟨"QueryStore", "delete", "(LQueryStore$Code;)I"⟩, 13) := ⟨⟨by decide +kernel, by decide +kernel⟩, List.mem_of_getElem? (i := 25) (by decide +kernel), List.mem_of_getElem? (i := 700) (by decide +kernel), List.mem_of_getElem? (i := 701) (by decide +kernel)⟩
theorem lw_p26 : lw_okq (⟨"QueryStore", "meets", "(LQueryStore$Code;I)Z"⟩, 13) := ⟨⟨by decide +kernel, by decide +kernel⟩, List.mem_of_getElem? (i := 25) (by decide +kernel), List.mem_of_getElem? (i := 704) (by decide +kernel), List.mem_of_getElem? (i := 705) (by decide +kernel)⟩
theorem lw_p27 : lw_okq (⟨"QueryStore", "rowsBeside", "(LQueryStore$Code;)I"⟩, 13) := ⟨⟨by decide +kernel, by decide +kernel⟩, List.mem_of_getElem? (i := 25) (by decide +kernel), List.mem_of_getElem? (i := 708) (by decide +kernel), List.mem_of_getElem? (i := 709) (by decide +kernel)⟩
theorem lw_p28 : lw_okq (⟨"QueryStore$Table", "spotOf", "(I)I"⟩, 3) := ⟨⟨by decide +kernel, by decide +kernel⟩, List.mem_of_getElem? (i := 172) (by decide +kernel), List.mem_of_getElem? (i := 720) (by decide +kernel), List.mem_of_getElem? (i := 721) (by decide +kernel)⟩
theorem lw_p29 : lw_okq (⟨"QueryStore$Table", "closePage", "(I)V"⟩, 3) := ⟨⟨by decide +kernel, by decide +kernel⟩, List.mem_of_getElem? (i := 172) (by decide +kernel), List.mem_of_getElem? (i := 744) (by decide +kernel), List.mem_of_getElem? (i := 745) (by decide +kernel)⟩
theorem lw_p30 : lw_okq (⟨"QueryStore", "update", "(LQueryStore$Code;)I"⟩, 13) := ⟨⟨by decide +kernel, by decide +kernel⟩, List.mem_of_getElem? (i := 25) (by decide +kernel), List.mem_of_getElem? (i := 748) (by decide +kernel), List.mem_of_getElem? (i := 749) (by decide +kernel)⟩
theorem lw_p31 : lw_okq (⟨"QueryStore", "aggregate", "(LQueryStore$Code;)I"⟩, 13) := ⟨⟨by decide +kernel, by decide +kernel⟩, List.mem_of_getElem? (i := 25) (by decide +kernel), List.mem_of_getElem? (i := 757) (by decide +kernel), List.mem_of_getElem? (i := 758) (by decide +kernel)⟩
def lw_privs_2 : List (MethodName × Nat) := [(⟨"QueryStore", "execute", "(LQueryStore$Code;I)I"⟩, 13), (⟨"QueryStore", "insert", "(LQueryStore$Code;)I"⟩, 13), (⟨"QueryStore$Machine", "carryOut", "(LQueryStore$Code;I)Z"⟩, 1), (⟨"QueryStore$Machine", "outcome", "(III)I"⟩, 1), (⟨"QueryStore$Machine", "compares", "(II)Z"⟩, 1), (⟨"QueryStore$Table", "pageFor", "(I)I"⟩, 3), (⟨"QueryStore$Table", "openPage", "(I)V"⟩, 3), (⟨"QueryStore$Page", "moveRows", "(III)V"⟩, 2), (⟨"QueryStore", "note", "(I)V"⟩, 13), (⟨"QueryStore", "delete", "(LQueryStore$Code;)I"⟩, 13), (⟨"QueryStore", "meets", "(LQueryStore$Code;I)Z"⟩, 13), (⟨"QueryStore", "rowsBeside", "(LQueryStore$Code;)I"⟩, 13), (⟨"QueryStore$Table", "spotOf", "(I)I"⟩, 3), (⟨"QueryStore$Table", "closePage", "(I)V"⟩, 3), (⟨"QueryStore", "update", "(LQueryStore$Code;)I"⟩, 13), (⟨"QueryStore", "aggregate", "(LQueryStore$Code;)I"⟩, 13)]
theorem lw_r2 : ∀ q ∈ lw_privs_2, lw_okq q := List.forall_mem_cons.mpr ⟨lw_p16, List.forall_mem_cons.mpr ⟨lw_p17, List.forall_mem_cons.mpr ⟨lw_p18, List.forall_mem_cons.mpr ⟨lw_p19, List.forall_mem_cons.mpr ⟨lw_p20, List.forall_mem_cons.mpr ⟨lw_p21, List.forall_mem_cons.mpr ⟨lw_p22, List.forall_mem_cons.mpr ⟨lw_p23, List.forall_mem_cons.mpr ⟨lw_p24, List.forall_mem_cons.mpr ⟨lw_p25, List.forall_mem_cons.mpr ⟨lw_p26, List.forall_mem_cons.mpr ⟨lw_p27, List.forall_mem_cons.mpr ⟨lw_p28, List.forall_mem_cons.mpr ⟨lw_p29, List.forall_mem_cons.mpr ⟨lw_p30, List.forall_mem_cons.mpr ⟨lw_p31, fun _ h => absurd h List.not_mem_nil⟩⟩⟩⟩⟩⟩⟩⟩⟩⟩⟩⟩⟩⟩⟩⟩
theorem lw_p32 : lw_okq (⟨"QueryStore", "pairsOf", "(LQueryStore$Code;)I"⟩, 13) := ⟨⟨by decide +kernel, by decide +kernel⟩, List.mem_of_getElem? (i := 25) (by decide +kernel), List.mem_of_getElem? (i := 761) (by decide +kernel), List.mem_of_getElem? (i := 762) (by decide +kernel)⟩
theorem lw_p33 : lw_okq (⟨"QueryStore", "select", "(LQueryStore$Code;)I"⟩, 13) := ⟨⟨by decide +kernel, by decide +kernel⟩, List.mem_of_getElem? (i := 25) (by decide +kernel), List.mem_of_getElem? (i := 799) (by decide +kernel), List.mem_of_getElem? (i := 800) (by decide +kernel)⟩
theorem lw_p34 : lw_okq (⟨"QueryStore", "stopNoting", "()I"⟩, 13) := ⟨⟨by decide +kernel, by decide +kernel⟩, List.mem_of_getElem? (i := 25) (by decide +kernel), List.mem_of_getElem? (i := 854) (by decide +kernel), List.mem_of_getElem? (i := 855) (by decide +kernel)⟩
theorem lw_p35 : lw_okq (⟨"QueryStoreModel", "bad", "(Z)Z"⟩, 33) := ⟨⟨by decide +kernel, by decide +kernel⟩, List.mem_of_getElem? (i := 865) (by decide +kernel), List.mem_of_getElem? (i := 982) (by decide +kernel), List.mem_of_getElem? (i := 983) (by decide +kernel)⟩
theorem lw_p36 : lw_okq (⟨"QueryStoreModel", "fail", "(I)I"⟩, 33) := ⟨⟨by decide +kernel, by decide +kernel⟩, List.mem_of_getElem? (i := 865) (by decide +kernel), List.mem_of_getElem? (i := 986) (by decide +kernel), List.mem_of_getElem? (i := 987) (by decide +kernel)⟩
theorem lw_p37 : lw_okq (⟨"QueryStoreModel", "read", "(I)Z"⟩, 33) := ⟨⟨by decide +kernel, by decide +kernel⟩, List.mem_of_getElem? (i := 865) (by decide +kernel), List.mem_of_getElem? (i := 994) (by decide +kernel), List.mem_of_getElem? (i := 995) (by decide +kernel)⟩
theorem lw_p38 : lw_okq (⟨"QueryStoreModel", "statement", "(I)Z"⟩, 33) := ⟨⟨by decide +kernel, by decide +kernel⟩, List.mem_of_getElem? (i := 865) (by decide +kernel), List.mem_of_getElem? (i := 998) (by decide +kernel), List.mem_of_getElem? (i := 999) (by decide +kernel)⟩
theorem lw_p39 : lw_okq (⟨"QueryStoreModel", "look", "()I"⟩, 33) := ⟨⟨by decide +kernel, by decide +kernel⟩, List.mem_of_getElem? (i := 865) (by decide +kernel), List.mem_of_getElem? (i := 1002) (by decide +kernel), List.mem_of_getElem? (i := 1003) (by decide +kernel)⟩
theorem lw_p40 : lw_okq (⟨"QueryStoreModel", "table", "(I)Z"⟩, 33) := ⟨⟨by decide +kernel, by decide +kernel⟩, List.mem_of_getElem? (i := 865) (by decide +kernel), List.mem_of_getElem? (i := 1006) (by decide +kernel), List.mem_of_getElem? (i := 1007) (by decide +kernel)⟩
theorem lw_p41 : lw_okq (⟨"QueryStoreModel", "passes", "(I)Z"⟩, 33) := ⟨⟨by decide +kernel, by decide +kernel⟩, List.mem_of_getElem? (i := 865) (by decide +kernel), List.mem_of_getElem? (i := 1010) (by decide +kernel), List.mem_of_getElem? (i := 1011) (by decide +kernel)⟩
theorem lw_p42 : lw_okq (⟨"QueryStoreModel", "list", "(II)Z"⟩, 33) := ⟨⟨by decide +kernel, by decide +kernel⟩, List.mem_of_getElem? (i := 865) (by decide +kernel), List.mem_of_getElem? (i := 1014) (by decide +kernel), List.mem_of_getElem? (i := 1015) (by decide +kernel)⟩
theorem lw_p43 : lw_okq (⟨"QueryStoreModel", "expression", "(I)Z"⟩, 33) := ⟨⟨by decide +kernel, by decide +kernel⟩, List.mem_of_getElem? (i := 865) (by decide +kernel), List.mem_of_getElem? (i := 1018) (by decide +kernel), List.mem_of_getElem? (i := 1019) (by decide +kernel)⟩
theorem lw_p44 : lw_okq (⟨"QueryStoreModel", "unit", "()Z"⟩, 33) := ⟨⟨by decide +kernel, by decide +kernel⟩, List.mem_of_getElem? (i := 865) (by decide +kernel), List.mem_of_getElem? (i := 1022) (by decide +kernel), List.mem_of_getElem? (i := 1023) (by decide +kernel)⟩
theorem lw_p45 : lw_okq (⟨"QueryStoreModel", "emit2", "(II)V"⟩, 33) := ⟨⟨by decide +kernel, by decide +kernel⟩, List.mem_of_getElem? (i := 865) (by decide +kernel), List.mem_of_getElem? (i := 1026) (by decide +kernel), List.mem_of_getElem? (i := 1027) (by decide +kernel)⟩
theorem lw_p46 : lw_okq (⟨"QueryStoreModel", "emit", "(I)V"⟩, 33) := ⟨⟨by decide +kernel, by decide +kernel⟩, List.mem_of_getElem? (i := 865) (by decide +kernel), List.mem_of_getElem? (i := 1030) (by decide +kernel), List.mem_of_getElem? (i := 1031) (by decide +kernel)⟩
theorem lw_p47 : lw_okq (⟨"QueryStoreModel", "writeSigns", "(I)I"⟩, 33) := ⟨⟨by decide +kernel, by decide +kernel⟩, List.mem_of_getElem? (i := 865) (by decide +kernel), List.mem_of_getElem? (i := 1034) (by decide +kernel), List.mem_of_getElem? (i := 1035) (by decide +kernel)⟩
def lw_privs_3 : List (MethodName × Nat) := [(⟨"QueryStore", "pairsOf", "(LQueryStore$Code;)I"⟩, 13), (⟨"QueryStore", "select", "(LQueryStore$Code;)I"⟩, 13), (⟨"QueryStore", "stopNoting", "()I"⟩, 13), (⟨"QueryStoreModel", "bad", "(Z)Z"⟩, 33), (⟨"QueryStoreModel", "fail", "(I)I"⟩, 33), (⟨"QueryStoreModel", "read", "(I)Z"⟩, 33), (⟨"QueryStoreModel", "statement", "(I)Z"⟩, 33), (⟨"QueryStoreModel", "look", "()I"⟩, 33), (⟨"QueryStoreModel", "table", "(I)Z"⟩, 33), (⟨"QueryStoreModel", "passes", "(I)Z"⟩, 33), (⟨"QueryStoreModel", "list", "(II)Z"⟩, 33), (⟨"QueryStoreModel", "expression", "(I)Z"⟩, 33), (⟨"QueryStoreModel", "unit", "()Z"⟩, 33), (⟨"QueryStoreModel", "emit2", "(II)V"⟩, 33), (⟨"QueryStoreModel", "emit", "(I)V"⟩, 33), (⟨"QueryStoreModel", "writeSigns", "(I)I"⟩, 33)]
theorem lw_r3 : ∀ q ∈ lw_privs_3, lw_okq q := List.forall_mem_cons.mpr ⟨lw_p32, List.forall_mem_cons.mpr ⟨lw_p33, List.forall_mem_cons.mpr ⟨lw_p34, List.forall_mem_cons.mpr ⟨lw_p35, List.forall_mem_cons.mpr ⟨lw_p36, List.forall_mem_cons.mpr ⟨lw_p37, List.forall_mem_cons.mpr ⟨lw_p38, List.forall_mem_cons.mpr ⟨lw_p39, List.forall_mem_cons.mpr ⟨lw_p40, List.forall_mem_cons.mpr ⟨lw_p41, List.forall_mem_cons.mpr ⟨lw_p42, List.forall_mem_cons.mpr ⟨lw_p43, List.forall_mem_cons.mpr ⟨lw_p44, List.forall_mem_cons.mpr ⟨lw_p45, List.forall_mem_cons.mpr ⟨lw_p46, List.forall_mem_cons.mpr ⟨lw_p47, fun _ h => absurd h List.not_mem_nil⟩⟩⟩⟩⟩⟩⟩⟩⟩⟩⟩⟩⟩⟩⟩⟩
theorem lw_p48 : lw_okq (⟨"QueryStoreModel", "push", "(II)V"⟩, 33) := ⟨⟨by decide +kernel, by decide +kernel⟩, List.mem_of_getElem? (i := 865) (by decide +kernel), List.mem_of_getElem? (i := 1038) (by decide +kernel), List.mem_of_getElem? (i := 1039) (by decide +kernel)⟩
theorem lw_p49 : lw_okq (⟨"QueryStoreModel", "write", "(II)V"⟩, 33) := ⟨⟨by decide +kernel, by decide +kernel⟩, List.mem_of_getElem? (i := 865) (by decide +kernel), List.mem_of_getElem? (i := 1045) (by decide +kernel), List.mem_of_getElem? (i := 1046) (by decide +kernel)⟩
theorem lw_p50 : lw_okq (⟨"QueryStoreModel", "condition", "(I)Z"⟩, 33) := ⟨⟨by decide +kernel, by decide +kernel⟩, List.mem_of_getElem? (i := 865) (by decide +kernel), List.mem_of_getElem? (i := 1049) (by decide +kernel), List.mem_of_getElem? (i := 1050) (by decide +kernel)⟩
theorem lw_p51 : lw_okq (⟨"QueryStoreModel", "perform", "(II)I"⟩, 33) := ⟨⟨by decide +kernel, by decide +kernel⟩, List.mem_of_getElem? (i := 865) (by decide +kernel), List.mem_of_getElem? (i := 1057) (by decide +kernel), List.mem_of_getElem? (i := 1058) (by decide +kernel)⟩
theorem lw_p52 : lw_okq (⟨"QueryStoreModel", "insert", "(I)I"⟩, 33) := ⟨⟨by decide +kernel, by decide +kernel⟩, List.mem_of_getElem? (i := 865) (by decide +kernel), List.mem_of_getElem? (i := 1061) (by decide +kernel), List.mem_of_getElem? (i := 1062) (by decide +kernel)⟩
theorem lw_p53 : lw_okq (⟨"QueryStoreModel", "worked", "(II)I"⟩, 33) := ⟨⟨by decide +kernel, by decide +kernel⟩, List.mem_of_getElem? (i := 865) (by decide +kernel), List.mem_of_getElem? (i := 1065) (by decide +kernel), List.mem_of_getElem? (i := 1066) (by decide +kernel)⟩
theorem lw_p54 : lw_okq (⟨"QueryStoreModel", "binary", "(III)I"⟩, 33) := ⟨⟨by decide +kernel, by decide +kernel⟩, List.mem_of_getElem? (i := 865) (by decide +kernel), List.mem_of_getElem? (i := 1069) (by decide +kernel), List.mem_of_getElem? (i := 1070) (by decide +kernel)⟩
theorem lw_p55 : lw_okq (⟨"QueryStoreModel", "change", "(I)I"⟩, 33) := ⟨⟨by decide +kernel, by decide +kernel⟩, List.mem_of_getElem? (i := 865) (by decide +kernel), List.mem_of_getElem? (i := 1073) (by decide +kernel), List.mem_of_getElem? (i := 1074) (by decide +kernel)⟩
theorem lw_p56 : lw_okq (⟨"QueryStoreModel", "stand", "(III)V"⟩, 33) := ⟨⟨by decide +kernel, by decide +kernel⟩, List.mem_of_getElem? (i := 865) (by decide +kernel), List.mem_of_getElem? (i := 1077) (by decide +kernel), List.mem_of_getElem? (i := 1078) (by decide +kernel)⟩
theorem lw_p57 : lw_okq (⟨"QueryStoreModel", "meets", "(I)Z"⟩, 33) := ⟨⟨by decide +kernel, by decide +kernel⟩, List.mem_of_getElem? (i := 865) (by decide +kernel), List.mem_of_getElem? (i := 1081) (by decide +kernel), List.mem_of_getElem? (i := 1082) (by decide +kernel)⟩
theorem lw_p58 : lw_okq (⟨"QueryStoreModel", "select", "(I)I"⟩, 33) := ⟨⟨by decide +kernel, by decide +kernel⟩, List.mem_of_getElem? (i := 865) (by decide +kernel), List.mem_of_getElem? (i := 1085) (by decide +kernel), List.mem_of_getElem? (i := 1086) (by decide +kernel)⟩
theorem lw_p59 : lw_okq (⟨"QueryStoreModel", "collect", "(I)V"⟩, 33) := ⟨⟨by decide +kernel, by decide +kernel⟩, List.mem_of_getElem? (i := 865) (by decide +kernel), List.mem_of_getElem? (i := 1089) (by decide +kernel), List.mem_of_getElem? (i := 1090) (by decide +kernel)⟩
theorem lw_p60 : lw_okq (⟨"QueryStoreModel", "sortResult", "()V"⟩, 33) := ⟨⟨by decide +kernel, by decide +kernel⟩, List.mem_of_getElem? (i := 865) (by decide +kernel), List.mem_of_getElem? (i := 1093) (by decide +kernel), List.mem_of_getElem? (i := 1094) (by decide +kernel)⟩
theorem lw_p61 : lw_okq (⟨"QueryStoreModel", "finish", "()I"⟩, 33) := ⟨⟨by decide +kernel, by decide +kernel⟩, List.mem_of_getElem? (i := 865) (by decide +kernel), List.mem_of_getElem? (i := 1117) (by decide +kernel), List.mem_of_getElem? (i := 1118) (by decide +kernel)⟩
def lw_privs_4 : List (MethodName × Nat) := [(⟨"QueryStoreModel", "push", "(II)V"⟩, 33), (⟨"QueryStoreModel", "write", "(II)V"⟩, 33), (⟨"QueryStoreModel", "condition", "(I)Z"⟩, 33), (⟨"QueryStoreModel", "perform", "(II)I"⟩, 33), (⟨"QueryStoreModel", "insert", "(I)I"⟩, 33), (⟨"QueryStoreModel", "worked", "(II)I"⟩, 33), (⟨"QueryStoreModel", "binary", "(III)I"⟩, 33), (⟨"QueryStoreModel", "change", "(I)I"⟩, 33), (⟨"QueryStoreModel", "stand", "(III)V"⟩, 33), (⟨"QueryStoreModel", "meets", "(I)Z"⟩, 33), (⟨"QueryStoreModel", "select", "(I)I"⟩, 33), (⟨"QueryStoreModel", "collect", "(I)V"⟩, 33), (⟨"QueryStoreModel", "sortResult", "()V"⟩, 33), (⟨"QueryStoreModel", "finish", "()I"⟩, 33)]
theorem lw_r4 : ∀ q ∈ lw_privs_4, lw_okq q := List.forall_mem_cons.mpr ⟨lw_p48, List.forall_mem_cons.mpr ⟨lw_p49, List.forall_mem_cons.mpr ⟨lw_p50, List.forall_mem_cons.mpr ⟨lw_p51, List.forall_mem_cons.mpr ⟨lw_p52, List.forall_mem_cons.mpr ⟨lw_p53, List.forall_mem_cons.mpr ⟨lw_p54, List.forall_mem_cons.mpr ⟨lw_p55, List.forall_mem_cons.mpr ⟨lw_p56, List.forall_mem_cons.mpr ⟨lw_p57, List.forall_mem_cons.mpr ⟨lw_p58, List.forall_mem_cons.mpr ⟨lw_p59, List.forall_mem_cons.mpr ⟨lw_p60, List.forall_mem_cons.mpr ⟨lw_p61, fun _ h => absurd h List.not_mem_nil⟩⟩⟩⟩⟩⟩⟩⟩⟩⟩⟩⟩⟩⟩
def lw_privs : List (MethodName × Nat) := lw_privs_1 ++ (lw_privs_2 ++ (lw_privs_3 ++ (lw_privs_4)))
def lw_tbl : List Cond := k2_sels lw_privs ++ tables_1
theorem lw_privs_ok : ∀ q ∈ lw_privs, lw_okq q := by
  show ∀ q ∈ lw_privs_1 ++ (lw_privs_2 ++ (lw_privs_3 ++ (lw_privs_4))), lw_okq q
  exact List.forall_mem_append.mpr ⟨lw_r1, List.forall_mem_append.mpr ⟨lw_r2, List.forall_mem_append.mpr ⟨lw_r3, lw_r4⟩⟩⟩
/-! ===== names of the classes that are made, their fields, the words ===== -/
def nT0 : u_T := fun k => match k with
  | 0 => ("QueryStore$Code", "operations", "[I", true)
  | 1 => ("QueryStore$Code", "registers", "[I", true)
  | 2 => ("QueryStore$Code", "operands", "[I", true)
  | 3 => ("QueryStore$Code", "size", "I", false)
  | 4 => ("QueryStore$Code", "kind", "I", false)
  | 5 => ("QueryStore$Code", "first", "I", false)
  | 6 => ("QueryStore$Code", "second", "I", false)
  | 7 => ("QueryStore$Code", "column", "I", false)
  | 8 => ("QueryStore$Code", "function", "I", false)
  | 9 => ("QueryStore$Code", "width", "I", false)
  | 10 => ("QueryStore$Code", "order", "I", false)
  | 11 => ("QueryStore$Code", "test", "I", false)
  | _ => ("QueryStore$Code", "parameters", "I", false)
def nY0 : Nat → FieldType := fun k => match k with
  | 0 => .array .int
  | 1 => .array .int
  | 2 => .array .int
  | 3 => .int
  | 4 => .int
  | 5 => .int
  | 6 => .int
  | 7 => .int
  | 8 => .int
  | 9 => .int
  | 10 => .int
  | 11 => .int
  | _ => .int
def nT1 : u_T := fun k => match k with
  | _ => ("QueryStore$Machine", "registers", "[I", true)
def nY1 : Nat → FieldType := fun k => match k with
  | _ => .array .int
def nT2 : u_T := fun k => match k with
  | 0 => ("QueryStore$Page", "cells", "[I", true)
  | _ => ("QueryStore$Page", "size", "I", false)
def nY2 : Nat → FieldType := fun k => match k with
  | 0 => .array .int
  | _ => .int
def nT3 : u_T := fun k => match k with
  | 0 => ("QueryStore$Reader", "text", "[C", true)
  | 1 => ("QueryStore$Reader", "length", "I", false)
  | 2 => ("QueryStore$Reader", "end", "I", false)
  | 3 => ("QueryStore$Reader", "at", "I", false)
  | 4 => ("QueryStore$Reader", "place", "I", false)
  | 5 => ("QueryStore$Reader", "code", "LQueryStore$Code;", false)
  | _ => ("QueryStore$Reader", "columns", "Ljava/lang/String;", false)
def nY3 : Nat → FieldType := fun k => match k with
  | 0 => .array .char
  | 1 => .int
  | 2 => .int
  | 3 => .int
  | 4 => .int
  | 5 => .object "QueryStore$Code"
  | _ => .object "java/lang/String"
def nT4 : u_T := fun k => match k with
  | 0 => ("QueryStore$Result", "cells", "[I", true)
  | 1 => ("QueryStore$Result", "orders", "[I", true)
  | 2 => ("QueryStore$Result", "places", "[I", true)
  | 3 => ("QueryStore$Result", "filled", "I", false)
  | 4 => ("QueryStore$Result", "size", "I", false)
  | _ => ("QueryStore$Result", "width", "I", false)
def nY4 : Nat → FieldType := fun k => match k with
  | 0 => .array .int
  | 1 => .array .int
  | 2 => .array .int
  | 3 => .int
  | 4 => .int
  | _ => .int
def nT5 : u_T := fun k => match k with
  | 0 => ("QueryStore$Table", "pages", "[LQueryStore$Page;", true)
  | 1 => ("QueryStore$Table", "used", "I", false)
  | _ => ("QueryStore$Table", "size", "I", false)
def nY5 : Nat → FieldType := fun k => match k with
  | 0 => .array (.object "QueryStore$Page")
  | 1 => .int
  | _ => .int
def nT6 : u_T := fun k => match k with
  | 0 => ("QueryStore", "tables", "[LQueryStore$Table;", true)
  | 1 => ("QueryStore", "tablesAtBegin", "[LQueryStore$Table;", true)
  | 2 => ("QueryStore", "reader", "LQueryStore$Reader;", true)
  | 3 => ("QueryStore", "machine", "LQueryStore$Machine;", true)
  | 4 => ("QueryStore", "result", "LQueryStore$Result;", true)
  | 5 => ("QueryStore", "kept", "[LQueryStore$Code;", true)
  | 6 => ("QueryStore", "chosen", "[Z", true)
  | 7 => ("QueryStore", "newNumbers", "[I", true)
  | 8 => ("QueryStore", "spare", "LQueryStore$Code;", false)
  | 9 => ("QueryStore", "begun", "Z", false)
  | 10 => ("QueryStore", "noted", "I", false)
  | 11 => ("QueryStore", "started", "I", false)
  | _ => ("QueryStore", "finished", "I", false)
def nY6 : Nat → FieldType := fun k => match k with
  | 0 => .array (.object "QueryStore$Table")
  | 1 => .array (.object "QueryStore$Table")
  | 2 => .object "QueryStore$Reader"
  | 3 => .object "QueryStore$Machine"
  | 4 => .object "QueryStore$Result"
  | 5 => .array (.object "QueryStore$Code")
  | 6 => .array .boolean
  | 7 => .array .int
  | 8 => .object "QueryStore$Code"
  | 9 => .boolean
  | 10 => .int
  | 11 => .int
  | _ => .int
def nT7 : u_T := fun k => match k with
  | 0 => ("QueryStoreModel", "text", "[I", true)
  | 1 => ("QueryStoreModel", "code", "[I", true)
  | 2 => ("QueryStoreModel", "rows", "[I", true)
  | 3 => ("QueryStoreModel", "rowCount", "[I", true)
  | 4 => ("QueryStoreModel", "oldRows", "[I", true)
  | 5 => ("QueryStoreModel", "oldCount", "[I", true)
  | 6 => ("QueryStoreModel", "kept", "[Z", true)
  | 7 => ("QueryStoreModel", "size", "I", false)
  | 8 => ("QueryStoreModel", "place", "I", false)
  | 9 => ("QueryStoreModel", "pos", "I", false)
  | 10 => ("QueryStoreModel", "at", "I", false)
  | 11 => ("QueryStoreModel", "questions", "I", false)
  | 12 => ("QueryStoreModel", "columns", "I", false)
  | 13 => ("QueryStoreModel", "operators", "I", false)
  | 14 => ("QueryStoreModel", "thrown", "I", false)
  | 15 => ("QueryStoreModel", "noted", "I", false)
  | 16 => ("QueryStoreModel", "done", "I", false)
  | 17 => ("QueryStoreModel", "failed", "I", false)
  | 18 => ("QueryStoreModel", "end", "I", false)
  | 19 => ("QueryStoreModel", "begun", "Z", false)
  | 20 => ("QueryStoreModel", "operator", "[I", true)
  | 21 => ("QueryStoreModel", "ranks", "[I", true)
  | 22 => ("QueryStoreModel", "starts", "[I", true)
  | 23 => ("QueryStoreModel", "pile", "[I", true)
  | 24 => ("QueryStoreModel", "here", "[I", true)
  | 25 => ("QueryStoreModel", "result", "[I", true)
  | 26 => ("QueryStoreModel", "sortBy", "[I", true)
  | 27 => ("QueryStoreModel", "marks", "[I", true)
  | 28 => ("QueryStoreModel", "values", "[I", true)
  | 29 => ("QueryStoreModel", "resultRows", "I", false)
  | 30 => ("QueryStoreModel", "resultWidth", "I", false)
  | 31 => ("QueryStoreModel", "parameter", "I", false)
  | _ => ("QueryStoreModel", "total", "I", false)
def nY7 : Nat → FieldType := fun k => match k with
  | 0 => .array .int
  | 1 => .array .int
  | 2 => .array .int
  | 3 => .array .int
  | 4 => .array .int
  | 5 => .array .int
  | 6 => .array .boolean
  | 7 => .int
  | 8 => .int
  | 9 => .int
  | 10 => .int
  | 11 => .int
  | 12 => .int
  | 13 => .int
  | 14 => .int
  | 15 => .int
  | 16 => .int
  | 17 => .int
  | 18 => .int
  | 19 => .boolean
  | 20 => .array .int
  | 21 => .array .int
  | 22 => .array .int
  | 23 => .array .int
  | 24 => .array .int
  | 25 => .array .int
  | 26 => .array .int
  | 27 => .array .int
  | 28 => .array .int
  | 29 => .int
  | 30 => .int
  | 31 => .int
  | _ => .int
def nq_cl : List vw_C := [("QueryStore$Code", nT0, 13), ("QueryStore$Machine", nT1, 1), ("QueryStore$Page", nT2, 2), ("QueryStore$Reader", nT3, 7), ("QueryStore$Result", nT4, 6), ("QueryStore$Table", nT5, 3), ("QueryStore", nT6, 13), ("QueryStoreModel", nT7, 33)]
def nq_T : List Cond := lw_tbl.filter goodWord
theorem nq_in {w : Cond} (k : Nat) (h : lw_tbl[k]? = some w) (hg : goodWord w = true) : w ∈ nq_T := List.mem_filter.mpr ⟨List.mem_of_getElem? h, hg⟩
theorem nq_i0 {w : Cond} (k : Nat) (h : (k2_sels lw_privs)[k]? = some w) (hg : goodWord w = true) : w ∈ nq_T := List.mem_filter.mpr ⟨List.mem_append_left _ (List.mem_of_getElem? h), hg⟩
theorem nq_i1 {w : Cond} (k : Nat) (h : tables_1_1[k]? = some w) (hg : goodWord w = true) : w ∈ nq_T := List.mem_filter.mpr ⟨List.mem_append_right _ (List.mem_append_left _ (List.mem_of_getElem? h)), hg⟩
theorem nq_i2 {w : Cond} (k : Nat) (h : tables_1_2[k]? = some w) (hg : goodWord w = true) : w ∈ nq_T := List.mem_filter.mpr ⟨List.mem_append_right _ (List.mem_append_right _ (List.mem_append_left _ (List.mem_of_getElem? h))), hg⟩
theorem nq_i3 {w : Cond} (k : Nat) (h : tables_1_3[k]? = some w) (hg : goodWord w = true) : w ∈ nq_T := List.mem_filter.mpr ⟨List.mem_append_right _ (List.mem_append_right _ (List.mem_append_right _ (List.mem_append_left _ (List.mem_of_getElem? h)))), hg⟩
theorem nq_i4 {w : Cond} (k : Nat) (h : tables_1_4[k]? = some w) (hg : goodWord w = true) : w ∈ nq_T := List.mem_filter.mpr ⟨List.mem_append_right _ (List.mem_append_right _ (List.mem_append_right _ (List.mem_append_right _ (List.mem_append_left _ (List.mem_of_getElem? h))))), hg⟩
theorem nq_i5 {w : Cond} (k : Nat) (h : tables_1_5[k]? = some w) (hg : goodWord w = true) : w ∈ nq_T := List.mem_filter.mpr ⟨List.mem_append_right _ (List.mem_append_right _ (List.mem_append_right _ (List.mem_append_right _ (List.mem_append_right _ (List.mem_of_getElem? h))))), hg⟩
theorem nN0 : ∀ a, a < 13 → ∀ b, b < 13 → a ≠ b → (nT0 a).2.1 ≠ (nT0 b).2.1 := by decide +kernel
theorem nO0 : ∀ k, k < 13 → parseFieldDescriptor (nT0 k).2.2.1 = some (nY0 k) := by decide +kernel
theorem nW0 : ∀ w ∈ u_ws "QueryStore$Code" nT0 13, w ∈ nq_T := by decide +kernel
theorem nN1 : ∀ a, a < 1 → ∀ b, b < 1 → a ≠ b → (nT1 a).2.1 ≠ (nT1 b).2.1 := by decide +kernel
theorem nO1 : ∀ k, k < 1 → parseFieldDescriptor (nT1 k).2.2.1 = some (nY1 k) := by decide +kernel
theorem nW1 : ∀ w ∈ u_ws "QueryStore$Machine" nT1 1, w ∈ nq_T := by decide +kernel
theorem nN2 : ∀ a, a < 2 → ∀ b, b < 2 → a ≠ b → (nT2 a).2.1 ≠ (nT2 b).2.1 := by decide +kernel
theorem nO2 : ∀ k, k < 2 → parseFieldDescriptor (nT2 k).2.2.1 = some (nY2 k) := by decide +kernel
theorem nW2 : ∀ w ∈ u_ws "QueryStore$Page" nT2 2, w ∈ nq_T := by decide +kernel
theorem nN3 : ∀ a, a < 7 → ∀ b, b < 7 → a ≠ b → (nT3 a).2.1 ≠ (nT3 b).2.1 := by decide +kernel
theorem nO3 : ∀ k, k < 7 → parseFieldDescriptor (nT3 k).2.2.1 = some (nY3 k) := by decide +kernel
theorem nW3 : ∀ w ∈ u_ws "QueryStore$Reader" nT3 7, w ∈ nq_T := by decide +kernel
theorem nN4 : ∀ a, a < 6 → ∀ b, b < 6 → a ≠ b → (nT4 a).2.1 ≠ (nT4 b).2.1 := by decide +kernel
theorem nO4 : ∀ k, k < 6 → parseFieldDescriptor (nT4 k).2.2.1 = some (nY4 k) := by decide +kernel
theorem nW4 : ∀ w ∈ u_ws "QueryStore$Result" nT4 6, w ∈ nq_T := by decide +kernel
theorem nN5 : ∀ a, a < 3 → ∀ b, b < 3 → a ≠ b → (nT5 a).2.1 ≠ (nT5 b).2.1 := by decide +kernel
theorem nO5 : ∀ k, k < 3 → parseFieldDescriptor (nT5 k).2.2.1 = some (nY5 k) := by decide +kernel
theorem nW5 : ∀ w ∈ u_ws "QueryStore$Table" nT5 3, w ∈ nq_T := by decide +kernel
theorem nN6 : ∀ a, a < 13 → ∀ b, b < 13 → a ≠ b → (nT6 a).2.1 ≠ (nT6 b).2.1 := by decide +kernel
theorem nO6 : ∀ k, k < 13 → parseFieldDescriptor (nT6 k).2.2.1 = some (nY6 k) := by decide +kernel
theorem nW6 : ∀ w ∈ u_ws "QueryStore" nT6 13, w ∈ nq_T := by decide +kernel
theorem nN7 : ∀ a, a < 33 → ∀ b, b < 33 → a ≠ b → (nT7 a).2.1 ≠ (nT7 b).2.1 := by decide +kernel
theorem nO7 : ∀ k, k < 33 → parseFieldDescriptor (nT7 k).2.2.1 = some (nY7 k) := by decide +kernel
theorem nW7 : ∀ w ∈ u_ws "QueryStoreModel" nT7 33, w ∈ nq_T := by decide +kernel
def nq_tyl : List FieldType := [.int, .boolean, .char, .long, .object "QueryStore$Table", .object "QueryStore$Page", .object "QueryStore$Code"]
def nq_NF : List (String × Nat × String × String × String × String) := [("QueryStore$Machine", 34, "QueryStore$Code", "operations", "[I", "QueryStore"), ("QueryStore$Machine", 37, "QueryStore$Code", "registers", "[I", "QueryStore"), ("QueryStore$Machine", 38, "QueryStore$Code", "operands", "[I", "QueryStore"), ("QueryStore$Machine", 31, "QueryStore$Code", "size", "I", "QueryStore"), ("QueryStore$Reader", 139, "QueryStore$Code", "size", "I", "QueryStore"), ("QueryStore$Reader", 60, "QueryStore$Code", "kind", "I", "QueryStore"), ("QueryStore", 137, "QueryStore$Code", "kind", "I", "QueryStore"), ("QueryStore$Reader", 104, "QueryStore$Code", "first", "I", "QueryStore"), ("QueryStore", 159, "QueryStore$Code", "first", "I", "QueryStore"), ("QueryStore$Reader", 109, "QueryStore$Code", "second", "I", "QueryStore"), ("QueryStore", 227, "QueryStore$Code", "second", "I", "QueryStore"), ("QueryStore$Reader", 126, "QueryStore$Code", "column", "I", "QueryStore"), ("QueryStore", 186, "QueryStore$Code", "column", "I", "QueryStore"), ("QueryStore$Reader", 133, "QueryStore$Code", "function", "I", "QueryStore"), ("QueryStore", 205, "QueryStore$Code", "function", "I", "QueryStore"), ("QueryStore$Reader", 136, "QueryStore$Code", "width", "I", "QueryStore"), ("QueryStore", 200, "QueryStore$Code", "width", "I", "QueryStore"), ("QueryStore$Reader", 163, "QueryStore$Code", "order", "I", "QueryStore"), ("QueryStore", 194, "QueryStore$Code", "order", "I", "QueryStore"), ("QueryStore$Machine", 21, "QueryStore$Code", "test", "I", "QueryStore"), ("QueryStore$Reader", 142, "QueryStore$Code", "test", "I", "QueryStore"), ("QueryStore", 71, "QueryStore$Code", "parameters", "I", "QueryStore"), ("QueryStore$Reader", 184, "QueryStore$Code", "parameters", "I", "QueryStore")]
def nq_NM : List (String × Nat × MethodName × String) := [("QueryStore", 20, ⟨"QueryStore$Reader", "<init>", "()V"⟩, "QueryStore"), ("QueryStore", 27, ⟨"QueryStore$Machine", "<init>", "()V"⟩, "QueryStore"), ("QueryStore", 34, ⟨"QueryStore$Result", "<init>", "()V"⟩, "QueryStore"), ("QueryStore", 53, ⟨"QueryStore$Code", "<init>", "()V"⟩, "QueryStore"), ("QueryStore$Table", 17, ⟨"QueryStore$Page", "<init>", "()V"⟩, "QueryStore")]
def nq_ND : List MethodName := [⟨"java/lang/RuntimeException", "<init>", "()V"⟩, ⟨"java/lang/RuntimeException", "<init>", "(Ljava/lang/String;)V"⟩, ⟨"java/lang/Exception", "<init>", "()V"⟩, ⟨"java/lang/Exception", "<init>", "(Ljava/lang/String;)V"⟩, ⟨"java/lang/Throwable", "<init>", "()V"⟩, ⟨"java/lang/Throwable", "<init>", "(Ljava/lang/String;)V"⟩]
def nq_NC : List (String × String) := [("java/lang/IllegalArgumentException", "java/lang/IllegalArgumentException"), ("java/lang/IllegalStateException", "java/lang/IllegalStateException"), ("java/util/NoSuchElementException", "java/util/NoSuchElementException"), ("java/lang/ArithmeticException", "java/lang/ArithmeticException"), ("java/lang/UnsupportedOperationException", "java/lang/UnsupportedOperationException")]
def nq_N : List Cond := nq_ND.map (fun q => .declares q) ++ (nq_NC.map (fun q => .castable q.1 q.2) ++ (nq_NF.map (fun q => .fieldLinkNest q.1 q.2.1 q.2.2.1 q.2.2.2.1 q.2.2.2.2.1 q.2.2.2.2.2) ++ nq_NM.map (fun q => .methodLinkNest q.1 q.2.1 q.2.2.1 q.2.2.2)))
theorem nq_N_warm {w : Cond} {s U : State} (hw : w ∈ nq_N) (hW : s.WarmedH U.vm) (h : va_Nw w s) : va_Nw w U := by
  rcases List.mem_append.mp hw with h9 | h9
  · obtain ⟨q, -, rfl⟩ := List.mem_map.mp h9
    exact va_Nw.warmD hW h
  rcases List.mem_append.mp h9 with h9 | h9
  · obtain ⟨q, -, rfl⟩ := List.mem_map.mp h9
    exact va_Nw.warmC hW h
  rcases List.mem_append.mp h9 with h9 | h9
  · obtain ⟨q, -, rfl⟩ := List.mem_map.mp h9
    exact va_Nw.warmF hW h
  · obtain ⟨q, -, rfl⟩ := List.mem_map.mp h9
    exact va_Nw.warmM hW h
theorem nq_N_tab {w : Cond} (hw : w ∈ nq_N) : w.onTables = true := by
  rcases List.mem_append.mp hw with h9 | h9
  · obtain ⟨q, -, rfl⟩ := List.mem_map.mp h9
    rfl
  rcases List.mem_append.mp h9 with h9 | h9
  · obtain ⟨q, -, rfl⟩ := List.mem_map.mp h9
    rfl
  rcases List.mem_append.mp h9 with h9 | h9
  · obtain ⟨q, -, rfl⟩ := List.mem_map.mp h9
    rfl
  · obtain ⟨q, -, rfl⟩ := List.mem_map.mp h9
    rfl
theorem nq_N_same {w : Cond} {u U : State} (hw : w ∈ nq_N) (hv : u.vm = U.vm) (h : va_Nw w u) : va_Nw w U := va_Nw.same (nq_N_tab hw) hv h
theorem nq_N_in : ∀ w ∈ nq_N, w ∈ lw_tbl := by decide +kernel
def nq_n : Nat := 22
def nq_len : List Nat := [0, 7, 3, 3, 6, 1, 10, 1, 1, 1, 3, 2, 1, 2, 1, 4, 1, 3, 1, 2, 1, 1]
def nq_byt : List (List Int32) := [[], [73, 68, 85, 83, 80, 65, 66], [48, 49, 50], [97, 98, 99], [97, 98, 99, 100, 101, 102], [40], [48, 49, 50, 51, 52, 53, 54, 55, 56, 57], [63], [45], [41], [42, 47, 37], [43, 45], [44], [98, 99], [61], [43, 35, 62, 60], [91], [60, 61, 62], [38], [38, 124], [93], [94]]
/-- the places of texts in the pools: owner, entry, text, number -/
def nq_K : List (String × Nat × String × Nat) := [("QueryStore$Reader", 19, "", 0), ("QueryStore$Reader", 96, "IDUSPAB", 1), ("QueryStore$Reader", 102, "012", 2), ("QueryStore$Reader", 107, "abc", 3), ("QueryStore$Reader", 112, "abcdef", 4), ("QueryStore$Reader", 114, "(", 5), ("QueryStore$Reader", 176, "0123456789", 6), ("QueryStore$Reader", 182, "?", 7), ("QueryStore$Reader", 187, "-", 8), ("QueryStore$Reader", 122, ")", 9), ("QueryStore$Reader", 174, "*/%", 10), ("QueryStore$Reader", 169, "+-", 11), ("QueryStore$Reader", 120, ",", 12), ("QueryStore$Reader", 124, "bc", 13), ("QueryStore$Reader", 129, "=", 14), ("QueryStore$Reader", 131, "+#><", 15), ("QueryStore$Reader", 79, "[", 16), ("QueryStore$Reader", 145, "<=>", 17), ("QueryStore$Reader", 153, "&", 18), ("QueryStore$Reader", 159, "&|", 19), ("QueryStore$Reader", 161, "]", 20), ("QueryStore$Reader", 88, "^", 21)]
def nq_V : List (String × String) := [("java/lang/IllegalArgumentException", "java/lang/IllegalStateException"), ("java/lang/IllegalArgumentException", "java/util/NoSuchElementException"), ("java/lang/IllegalArgumentException", "java/lang/ArithmeticException"), ("java/lang/IllegalArgumentException", "java/lang/UnsupportedOperationException"), ("java/lang/IllegalStateException", "java/lang/IllegalArgumentException"), ("java/lang/IllegalStateException", "java/util/NoSuchElementException"), ("java/lang/IllegalStateException", "java/lang/ArithmeticException"), ("java/lang/IllegalStateException", "java/lang/UnsupportedOperationException"), ("java/util/NoSuchElementException", "java/lang/IllegalArgumentException"), ("java/util/NoSuchElementException", "java/lang/IllegalStateException"), ("java/util/NoSuchElementException", "java/lang/ArithmeticException"), ("java/util/NoSuchElementException", "java/lang/UnsupportedOperationException"), ("java/lang/ArithmeticException", "java/lang/IllegalArgumentException"), ("java/lang/ArithmeticException", "java/lang/IllegalStateException"), ("java/lang/ArithmeticException", "java/util/NoSuchElementException"), ("java/lang/ArithmeticException", "java/lang/UnsupportedOperationException"), ("java/lang/UnsupportedOperationException", "java/lang/IllegalArgumentException"), ("java/lang/UnsupportedOperationException", "java/lang/IllegalStateException"), ("java/lang/UnsupportedOperationException", "java/util/NoSuchElementException"), ("java/lang/UnsupportedOperationException", "java/lang/ArithmeticException")]
/-! ===== methods: name, code, locals, answer, handlers ===== -/
abbrev nq_M : Type := MethodName × ByteArray × Nat × Option FieldType × List (Nat × Nat × Nat × Nat)
def m_QS_init : nq_M := (⟨"QueryStore", "<init>", "()V"⟩, prog_1_method_1_code, 2, none, [])
def m_Reader_init : nq_M := (⟨"QueryStore$Reader", "<init>", "()V"⟩, prog_5_method_1_code, 1, none, [])
def m_Machine_init : nq_M := (⟨"QueryStore$Machine", "<init>", "()V"⟩, prog_3_method_1_code, 1, none, [])
def m_Result_init : nq_M := (⟨"QueryStore$Result", "<init>", "()V"⟩, prog_6_method_1_code, 1, none, [])
def m_Code_init : nq_M := (⟨"QueryStore$Code", "<init>", "()V"⟩, prog_2_method_1_code, 1, none, [])
def m_Table_init : nq_M := (⟨"QueryStore$Table", "<init>", "()V"⟩, prog_7_method_1_code, 2, none, [])
def m_Page_init : nq_M := (⟨"QueryStore$Page", "<init>", "()V"⟩, prog_4_method_1_code, 1, none, [])
def m_QS_count : nq_M := (⟨"QueryStore", "count", "(I)I"⟩, prog_1_method_11_code, 2, (some .int), [])
def m_Reader_place : nq_M := (⟨"QueryStore$Reader", "place", "()I"⟩, prog_5_method_3_code, 1, (some .int), [])
def m_Reader_length : nq_M := (⟨"QueryStore$Reader", "length", "()I"⟩, prog_5_method_2_code, 1, (some .int), [])
def m_QS_statementsKept : nq_M := (⟨"QueryStore", "statementsKept", "()I"⟩, prog_1_method_13_code, 3, (some .int), [])
def m_Table_size : nq_M := (⟨"QueryStore$Table", "size", "()I"⟩, prog_7_method_2_code, 1, (some .int), [])
def m_Result_size : nq_M := (⟨"QueryStore$Result", "size", "()I"⟩, prog_6_method_2_code, 1, (some .int), [])
def m_Result_width : nq_M := (⟨"QueryStore$Result", "width", "()I"⟩, prog_6_method_3_code, 1, (some .int), [])
def m_Law_type : nq_M := (⟨"QueryStoreLaw", "type", "(LQueryStore;J[J)I"⟩, method_3_code, 5, (some .int), [(0, 9, 12, 13), (0, 9, 16, 15)])
def m_QS_type : nq_M := (⟨"QueryStore", "type", "(J)I"⟩, prog_1_method_2_code, 3, (some .int), [])
def m_Reader_add : nq_M := (⟨"QueryStore$Reader", "add", "(J)I"⟩, prog_5_method_4_code, 5, (some .int), [])
def m_Reader_charactersIn : nq_M := (⟨"QueryStore$Reader", "charactersIn", "(J)I"⟩, prog_5_method_5_code, 5, (some .int), [])
def m_Reader_byteAt : nq_M := (⟨"QueryStore$Reader", "byteAt", "(JI)I"⟩, prog_5_method_6_code, 3, (some .int), [])
def m_Law_keep : nq_M := (⟨"QueryStoreLaw", "keep", "(LQueryStore;I[J)I"⟩, method_4_code, 4, (some .int), [(0, 9, 12, 13)])
def m_QS_keep : nq_M := (⟨"QueryStore", "keep", "(I)I"⟩, prog_1_method_3_code, 3, (some .int), [])
def m_QS_refuseBadNumber : nq_M := (⟨"QueryStore", "refuseBadNumber", "(I)V"⟩, prog_1_method_12_code, 1, none, [])
def m_Reader_read : nq_M := (⟨"QueryStore$Reader", "read", "(LQueryStore$Code;)V"⟩, prog_5_method_7_code, 2, none, [])
def m_Code_clear : nq_M := (⟨"QueryStore$Code", "clear", "()V"⟩, prog_2_method_2_code, 1, none, [])
def m_Reader_readHead : nq_M := (⟨"QueryStore$Reader", "readHead", "()V"⟩, prog_5_method_8_code, 1, none, [])
def m_Reader_take : nq_M := (⟨"QueryStore$Reader", "take", "(Ljava/lang/String;)C"⟩, prog_5_method_21_code, 2, (some .char), [])
def m_Str_indexOf1 : nq_M := (⟨"java/lang/String", "indexOf", "(I)I"⟩, prog_17_method_79_code, 2, (some .int), [])
def m_Str_indexOf2 : nq_M := (⟨"java/lang/String", "indexOf", "(II)I"⟩, prog_17_method_80_code, 3, (some .int), [])
def m_Str_isLatin1 : nq_M := (⟨"java/lang/String", "isLatin1", "()Z"⟩, prog_17_method_154_code, 1, (some .boolean), [])
def m_Str_length : nq_M := (⟨"java/lang/String", "length", "()I"⟩, prog_17_method_54_code, 1, (some .int), [])
def m_Str_coder : nq_M := (⟨"java/lang/String", "coder", "()B"⟩, prog_17_method_152_code, 1, (some .byte), [])
def m_Lat_indexOf : nq_M := (⟨"java/lang/StringLatin1", "indexOf", "([BIII)I"⟩, prog_18_method_22_code, 4, (some .int), [])
def m_Lat_canEncode : nq_M := (⟨"java/lang/StringLatin1", "canEncode", "(I)Z"⟩, prog_18_method_4_code, 1, (some .boolean), [])
def m_Lat_indexOfChar : nq_M := (⟨"java/lang/StringLatin1", "indexOfChar", "([BIII)I"⟩, prog_18_method_23_code, 6, (some .int), [])
def m_Str_checkBoundsBeginEnd : nq_M := (⟨"java/lang/String", "checkBoundsBeginEnd", "(III)V"⟩, prog_17_method_158_code, 3, none, [])
def m_Reader_refuse : nq_M := (⟨"QueryStore$Reader", "refuse", "()V"⟩, prog_5_method_22_code, 1, none, [])
def m_Reader_readNewRow : nq_M := (⟨"QueryStore$Reader", "readNewRow", "()V"⟩, prog_5_method_9_code, 1, none, [])
def m_Reader_readSum : nq_M := (⟨"QueryStore$Reader", "readSum", "(II)V"⟩, prog_5_method_15_code, 5, none, [])
def m_Reader_readTerm : nq_M := (⟨"QueryStore$Reader", "readTerm", "(II)V"⟩, prog_5_method_16_code, 5, none, [])
def m_Reader_readUnit : nq_M := (⟨"QueryStore$Reader", "readUnit", "(II)V"⟩, prog_5_method_17_code, 3, none, [])
def m_Reader_sees : nq_M := (⟨"QueryStore$Reader", "sees", "(Ljava/lang/String;)Z"⟩, prog_5_method_20_code, 2, (some .boolean), [])
def m_Reader_takeNumber : nq_M := (⟨"QueryStore$Reader", "takeNumber", "()I"⟩, prog_5_method_18_code, 3, (some .int), [])
def m_Reader_isDigit : nq_M := (⟨"QueryStore$Reader", "isDigit", "(C)Z"⟩, prog_5_method_19_code, 1, (some .boolean), [])
def m_Code_add : nq_M := (⟨"QueryStore$Code", "add", "(III)V"⟩, prog_2_method_3_code, 4, none, [])
def m_Reader_readChange : nq_M := (⟨"QueryStore$Reader", "readChange", "()V"⟩, prog_5_method_10_code, 1, none, [])
def m_Reader_readFold : nq_M := (⟨"QueryStore$Reader", "readFold", "()V"⟩, prog_5_method_11_code, 1, none, [])
def m_Reader_readList : nq_M := (⟨"QueryStore$Reader", "readList", "()V"⟩, prog_5_method_12_code, 1, none, [])
def m_Reader_readCondition : nq_M := (⟨"QueryStore$Reader", "readCondition", "()V"⟩, prog_5_method_13_code, 5, none, [])
def m_Code_setJumpsFrom : nq_M := (⟨"QueryStore$Code", "setJumpsFrom", "(I)V"⟩, prog_2_method_4_code, 3, none, [])
def m_Reader_readOrder : nq_M := (⟨"QueryStore$Reader", "readOrder", "()V"⟩, prog_5_method_14_code, 1, none, [])
def m_Law_run : nq_M := (⟨"QueryStoreLaw", "run", "(LQueryStore;II[J)I"⟩, method_5_code, 5, (some .int), [(0, 10, 13, 13), (0, 10, 17, 25), (0, 10, 21, 27), (0, 10, 25, 15), (0, 10, 29, 29)])
def m_QS_run : nq_M := (⟨"QueryStore", "run", "(II)I"⟩, prog_1_method_4_code, 3, (some .int), [])
def m_QS_execute : nq_M := (⟨"QueryStore", "execute", "(LQueryStore$Code;I)I"⟩, prog_1_method_16_code, 4, (some .int), [])
def m_Result_clear : nq_M := (⟨"QueryStore$Result", "clear", "()V"⟩, prog_6_method_5_code, 1, none, [])
def m_Machine_put : nq_M := (⟨"QueryStore$Machine", "put", "(II)V"⟩, prog_3_method_3_code, 3, none, [])
def m_QS_insert : nq_M := (⟨"QueryStore", "insert", "(LQueryStore$Code;)I"⟩, prog_1_method_17_code, 4, (some .int), [])
def m_Machine_workOut : nq_M := (⟨"QueryStore$Machine", "workOut", "(LQueryStore$Code;)V"⟩, prog_3_method_6_code, 2, none, [])
def m_Machine_carryOut : nq_M := (⟨"QueryStore$Machine", "carryOut", "(LQueryStore$Code;I)Z"⟩, prog_3_method_7_code, 7, (some .boolean), [])
def m_Machine_outcome : nq_M := (⟨"QueryStore$Machine", "outcome", "(III)I"⟩, prog_3_method_8_code, 4, (some .int), [])
def m_Machine_divide : nq_M := (⟨"QueryStore$Machine", "divide", "(III)I"⟩, prog_3_method_9_code, 3, (some .int), [])
def m_Machine_compares : nq_M := (⟨"QueryStore$Machine", "compares", "(II)Z"⟩, prog_3_method_10_code, 5, (some .boolean), [])
def m_Machine_get : nq_M := (⟨"QueryStore$Machine", "get", "(I)I"⟩, prog_3_method_2_code, 2, (some .int), [])
def m_Table_holds : nq_M := (⟨"QueryStore$Table", "holds", "(I)Z"⟩, prog_7_method_4_code, 2, (some .boolean), [])
def m_Table_pageFor : nq_M := (⟨"QueryStore$Table", "pageFor", "(I)I"⟩, prog_7_method_11_code, 3, (some .int), [])
def m_Page_get : nq_M := (⟨"QueryStore$Page", "get", "(II)I"⟩, prog_4_method_4_code, 3, (some .int), [])
def m_Page_holds : nq_M := (⟨"QueryStore$Page", "holds", "(I)Z"⟩, prog_4_method_7_code, 3, (some .boolean), [])
def m_Table_isFull : nq_M := (⟨"QueryStore$Table", "isFull", "()Z"⟩, prog_7_method_3_code, 1, (some .boolean), [])
def m_Table_insert : nq_M := (⟨"QueryStore$Table", "insert", "(III)V"⟩, prog_7_method_8_code, 5, none, [])
def m_Table_openPage : nq_M := (⟨"QueryStore$Table", "openPage", "(I)V"⟩, prog_7_method_13_code, 4, none, [])
def m_Page_isFull : nq_M := (⟨"QueryStore$Page", "isFull", "()Z"⟩, prog_4_method_3_code, 1, (some .boolean), [])
def m_Page_giveUpperHalf : nq_M := (⟨"QueryStore$Page", "giveUpperHalf", "(LQueryStore$Page;)V"⟩, prog_4_method_10_code, 3, none, [])
def m_Page_insert : nq_M := (⟨"QueryStore$Page", "insert", "(III)V"⟩, prog_4_method_8_code, 5, none, [])
def m_Page_moveRows : nq_M := (⟨"QueryStore$Page", "moveRows", "(III)V"⟩, prog_4_method_12_code, 4, none, [])
def m_Page_put : nq_M := (⟨"QueryStore$Page", "put", "(III)V"⟩, prog_4_method_5_code, 4, none, [])
def m_QS_note : nq_M := (⟨"QueryStore", "note", "(I)V"⟩, prog_1_method_15_code, 2, none, [])
def m_QS_delete : nq_M := (⟨"QueryStore", "delete", "(LQueryStore$Code;)I"⟩, prog_1_method_18_code, 5, (some .int), [])
def m_QS_meets : nq_M := (⟨"QueryStore", "meets", "(LQueryStore$Code;I)Z"⟩, prog_1_method_26_code, 4, (some .boolean), [])
def m_QS_rowsBeside : nq_M := (⟨"QueryStore", "rowsBeside", "(LQueryStore$Code;)I"⟩, prog_1_method_24_code, 2, (some .int), [])
def m_Machine_load : nq_M := (⟨"QueryStore$Machine", "load", "(LQueryStore$Table;II)V"⟩, prog_3_method_4_code, 4, none, [])
def m_Table_copyRow : nq_M := (⟨"QueryStore$Table", "copyRow", "(I[II)V"⟩, prog_7_method_7_code, 5, none, [])
def m_Table_spotOf : nq_M := (⟨"QueryStore$Table", "spotOf", "(I)I"⟩, prog_7_method_12_code, 4, (some .int), [])
def m_Page_size : nq_M := (⟨"QueryStore$Page", "size", "()I"⟩, prog_4_method_2_code, 1, (some .int), [])
def m_Page_copyRow : nq_M := (⟨"QueryStore$Page", "copyRow", "(I[II)V"⟩, prog_4_method_6_code, 4, none, [])
def m_Machine_meetsTest : nq_M := (⟨"QueryStore$Machine", "meetsTest", "(LQueryStore$Code;)Z"⟩, prog_3_method_5_code, 2, (some .boolean), [])
def m_Table_remove : nq_M := (⟨"QueryStore$Table", "remove", "(I)V"⟩, prog_7_method_9_code, 4, none, [])
def m_Page_remove : nq_M := (⟨"QueryStore$Page", "remove", "(I)V"⟩, prog_4_method_9_code, 2, none, [])
def m_Table_closePage : nq_M := (⟨"QueryStore$Table", "closePage", "(I)V"⟩, prog_7_method_14_code, 4, none, [])
def m_QS_update : nq_M := (⟨"QueryStore", "update", "(LQueryStore$Code;)I"⟩, prog_1_method_19_code, 5, (some .int), [])
def m_Table_put : nq_M := (⟨"QueryStore$Table", "put", "(III)V"⟩, prog_7_method_6_code, 5, none, [])
def m_QS_aggregate : nq_M := (⟨"QueryStore", "aggregate", "(LQueryStore$Code;)I"⟩, prog_1_method_21_code, 6, (some .int), [])
def m_QS_pairsOf : nq_M := (⟨"QueryStore", "pairsOf", "(LQueryStore$Code;)I"⟩, prog_1_method_25_code, 2, (some .int), [])
def m_QS_foldOfNone : nq_M := (⟨"QueryStore", "foldOfNone", "(I)I"⟩, prog_1_method_22_code, 1, (some .int), [])
def m_QS_fold : nq_M := (⟨"QueryStore", "fold", "(III)I"⟩, prog_1_method_23_code, 3, (some .int), [])
def m_Result_add : nq_M := (⟨"QueryStore$Result", "add", "(LQueryStore$Machine;I)V"⟩, prog_6_method_6_code, 6, none, [])
def m_Result_show : nq_M := (⟨"QueryStore$Result", "show", "(I)V"⟩, prog_6_method_7_code, 2, none, [])
def m_QS_select : nq_M := (⟨"QueryStore", "select", "(LQueryStore$Code;)I"⟩, prog_1_method_20_code, 4, (some .int), [])
def m_Law_ask : nq_M := (⟨"QueryStoreLaw", "ask", "(LQueryStore;I[J)I"⟩, method_6_code, 4, (some .int), [(0, 9, 12, 13), (0, 9, 15, 25), (0, 9, 18, 27), (0, 9, 21, 15), (0, 9, 24, 29)])
def m_QS_ask : nq_M := (⟨"QueryStore", "ask", "(I)I"⟩, prog_1_method_5_code, 2, (some .int), [])
def m_Law_value : nq_M := (⟨"QueryStoreLaw", "value", "(LQueryStore;II[J)I"⟩, method_7_code, 5, (some .int), [(0, 10, 13, 25)])
def m_QS_value : nq_M := (⟨"QueryStore", "value", "(II)I"⟩, prog_1_method_6_code, 3, (some .int), [])
def m_Result_get : nq_M := (⟨"QueryStore$Result", "get", "(II)I"⟩, prog_6_method_4_code, 3, (some .int), [])
def m_Law_row : nq_M := (⟨"QueryStoreLaw", "row", "(LQueryStore;III[J)I"⟩, method_8_code, 6, (some .int), [(0, 12, 15, 13), (0, 12, 19, 25)])
def m_QS_row : nq_M := (⟨"QueryStore", "row", "(III)I"⟩, prog_1_method_7_code, 4, (some .int), [])
def m_Table_get : nq_M := (⟨"QueryStore$Table", "get", "(II)I"⟩, prog_7_method_5_code, 4, (some .int), [])
def m_Law_begin : nq_M := (⟨"QueryStoreLaw", "begin", "(LQueryStore;)I"⟩, method_9_code, 2, (some .int), [(0, 4, 7, 15)])
def m_QS_begin : nq_M := (⟨"QueryStore", "begin", "()V"⟩, prog_1_method_8_code, 2, none, [])
def m_Table_becomeLike : nq_M := (⟨"QueryStore$Table", "becomeLike", "(LQueryStore$Table;)V"⟩, prog_7_method_10_code, 3, none, [])
def m_Page_becomeLike : nq_M := (⟨"QueryStore$Page", "becomeLike", "(LQueryStore$Page;)V"⟩, prog_4_method_11_code, 2, none, [])
def m_Law_end : nq_M := (⟨"QueryStoreLaw", "end", "(LQueryStore;[J)I"⟩, method_10_code, 3, (some .int), [(0, 8, 11, 15)])
def m_QS_end : nq_M := (⟨"QueryStore", "end", "()I"⟩, prog_1_method_9_code, 1, (some .int), [])
def m_QS_stopNoting : nq_M := (⟨"QueryStore", "stopNoting", "()I"⟩, prog_1_method_14_code, 2, (some .int), [])
def m_Law_back : nq_M := (⟨"QueryStoreLaw", "back", "(LQueryStore;[J)I"⟩, method_11_code, 3, (some .int), [(0, 8, 11, 15)])
def m_QS_back : nq_M := (⟨"QueryStore", "back", "()I"⟩, prog_1_method_10_code, 3, (some .int), [])
def m_Mod_init : nq_M := (⟨"QueryStoreModel", "<init>", "()V"⟩, prog_9_method_1_code, 1, none, [])
def m_Mod_thrown : nq_M := (⟨"QueryStoreModel", "thrown", "()I"⟩, prog_9_method_2_code, 1, (some .int), [])
def m_Mod_type : nq_M := (⟨"QueryStoreModel", "type", "(J)I"⟩, prog_9_method_6_code, 7, (some .int), [])
def m_Mod_in : nq_M := (⟨"QueryStoreModel", "in", "(III)Z"⟩, prog_9_method_3_code, 3, (some .boolean), [])
def m_Mod_bad : nq_M := (⟨"QueryStoreModel", "bad", "(Z)Z"⟩, prog_9_method_4_code, 2, (some .boolean), [])
def m_Mod_fail : nq_M := (⟨"QueryStoreModel", "fail", "(I)I"⟩, prog_9_method_5_code, 2, (some .int), [])
def m_Mod_keep : nq_M := (⟨"QueryStoreModel", "keep", "(I)I"⟩, prog_9_method_22_code, 3, (some .int), [])
def m_Mod_read : nq_M := (⟨"QueryStoreModel", "read", "(I)Z"⟩, prog_9_method_21_code, 4, (some .boolean), [])
def m_Mod_statement : nq_M := (⟨"QueryStoreModel", "statement", "(I)Z"⟩, prog_9_method_20_code, 4, (some .boolean), [])
def m_Mod_look : nq_M := (⟨"QueryStoreModel", "look", "()I"⟩, prog_9_method_7_code, 1, (some .int), [])
def m_Mod_table : nq_M := (⟨"QueryStoreModel", "table", "(I)Z"⟩, prog_9_method_18_code, 2, (some .boolean), [])
def m_Mod_passes : nq_M := (⟨"QueryStoreModel", "passes", "(I)Z"⟩, prog_9_method_8_code, 2, (some .boolean), [])
def m_Mod_list : nq_M := (⟨"QueryStoreModel", "list", "(II)Z"⟩, prog_9_method_19_code, 3, (some .boolean), [])
def m_Mod_expression : nq_M := (⟨"QueryStoreModel", "expression", "(I)Z"⟩, prog_9_method_16_code, 6, (some .boolean), [])
def m_Mod_unit : nq_M := (⟨"QueryStoreModel", "unit", "()Z"⟩, prog_9_method_15_code, 4, (some .boolean), [])
def m_Mod_emit2 : nq_M := (⟨"QueryStoreModel", "emit2", "(II)V"⟩, prog_9_method_10_code, 3, none, [])
def m_Mod_emit : nq_M := (⟨"QueryStoreModel", "emit", "(I)V"⟩, prog_9_method_9_code, 2, none, [])
def m_Mod_writeSigns : nq_M := (⟨"QueryStoreModel", "writeSigns", "(I)I"⟩, prog_9_method_14_code, 3, (some .int), [])
def m_Mod_push : nq_M := (⟨"QueryStoreModel", "push", "(II)V"⟩, prog_9_method_13_code, 3, none, [])
def m_Mod_rank : nq_M := (⟨"QueryStoreModel", "rank", "(I)I"⟩, prog_9_method_11_code, 1, (some .int), [])
def m_Mod_write : nq_M := (⟨"QueryStoreModel", "write", "(II)V"⟩, prog_9_method_12_code, 3, none, [])
def m_Mod_condition : nq_M := (⟨"QueryStoreModel", "condition", "(I)Z"⟩, prog_9_method_17_code, 4, (some .boolean), [])
def m_Mod_run : nq_M := (⟨"QueryStoreModel", "run", "(II)I"⟩, prog_9_method_33_code, 3, (some .int), [])
def m_Mod_perform : nq_M := (⟨"QueryStoreModel", "perform", "(II)I"⟩, prog_9_method_32_code, 6, (some .int), [])
def m_Mod_insert : nq_M := (⟨"QueryStoreModel", "insert", "(I)I"⟩, prog_9_method_30_code, 7, (some .int), [])
def m_Mod_worked : nq_M := (⟨"QueryStoreModel", "worked", "(II)I"⟩, prog_9_method_24_code, 6, (some .int), [])
def m_Mod_binary : nq_M := (⟨"QueryStoreModel", "binary", "(III)I"⟩, prog_9_method_23_code, 4, (some .int), [])
def m_Mod_change : nq_M := (⟨"QueryStoreModel", "change", "(I)I"⟩, prog_9_method_31_code, 9, (some .int), [])
def m_Mod_stand : nq_M := (⟨"QueryStoreModel", "stand", "(III)V"⟩, prog_9_method_26_code, 5, none, [])
def m_Mod_meets : nq_M := (⟨"QueryStoreModel", "meets", "(I)Z"⟩, prog_9_method_25_code, 9, (some .boolean), [])
def m_Mod_select : nq_M := (⟨"QueryStoreModel", "select", "(I)I"⟩, prog_9_method_29_code, 8, (some .int), [])
def m_Mod_collect : nq_M := (⟨"QueryStoreModel", "collect", "(I)V"⟩, prog_9_method_27_code, 5, none, [])
def m_Mod_sortResult : nq_M := (⟨"QueryStoreModel", "sortResult", "()V"⟩, prog_9_method_28_code, 6, none, [])
def m_Mod_ask : nq_M := (⟨"QueryStoreModel", "ask", "(I)I"⟩, prog_9_method_34_code, 2, (some .int), [])
def m_Mod_value : nq_M := (⟨"QueryStoreModel", "value", "(II)I"⟩, prog_9_method_35_code, 3, (some .int), [])
def m_Mod_row : nq_M := (⟨"QueryStoreModel", "row", "(III)I"⟩, prog_9_method_36_code, 4, (some .int), [])
def m_Mod_begin : nq_M := (⟨"QueryStoreModel", "begin", "()V"⟩, prog_9_method_37_code, 2, none, [])
def m_Mod_end : nq_M := (⟨"QueryStoreModel", "end", "()I"⟩, prog_9_method_39_code, 1, (some .int), [])
def m_Mod_finish : nq_M := (⟨"QueryStoreModel", "finish", "()I"⟩, prog_9_method_38_code, 2, (some .int), [])
def m_Mod_back : nq_M := (⟨"QueryStoreModel", "back", "()I"⟩, prog_9_method_40_code, 2, (some .int), [])
def m_Mod_count : nq_M := (⟨"QueryStoreModel", "count", "(I)I"⟩, prog_9_method_41_code, 4, (some .int), [])
def m_Law_law : nq_M := (⟨"QueryStoreLaw", "law", "([I)Z"⟩, code, 7, (some .boolean), [])
