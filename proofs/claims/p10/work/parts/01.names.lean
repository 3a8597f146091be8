-- ===== PART A: goes FIRST, ahead of the names: the tables' words, and 'selects' of the private methods out of them =====
/-- a private method of a class that the tables say can be made, by its rows of tables_1 -/
def lw_okq (q : MethodName × Nat) : Prop := (q.1.cls ≠ "java/lang/invoke/MethodHandle" ∧ q.1.cls ≠ "java/lang/invoke/VarHandle") ∧ Cond.instantiable q.1.cls q.2 ∈ tables_1 ∧ Cond.privateMethod q.1 ∈ tables_1 ∧ Cond.instanceMethod q.1 ∈ tables_1
theorem lw_p0 : lw_okq (⟨"CardOffice", "cardsInAll", "()I"⟩, 8) := ⟨⟨by decide +kernel, by decide +kernel⟩, List.mem_of_getElem? (i := 24) (by decide +kernel), List.mem_of_getElem? (i := 238) (by decide +kernel), List.mem_of_getElem? (i := 239) (by decide +kernel)⟩
theorem lw_p1 : lw_okq (⟨"CardOffice", "readColumns", "(JI)Z"⟩, 8) := ⟨⟨by decide +kernel, by decide +kernel⟩, List.mem_of_getElem? (i := 24) (by decide +kernel), List.mem_of_getElem? (i := 242) (by decide +kernel), List.mem_of_getElem? (i := 243) (by decide +kernel)⟩
theorem lw_p2 : lw_okq (⟨"CardOffice$Board", "hasWire", "(II)Z"⟩, 4) := ⟨⟨by decide +kernel, by decide +kernel⟩, List.mem_of_getElem? (i := 181) (by decide +kernel), List.mem_of_getElem? (i := 289) (by decide +kernel), List.mem_of_getElem? (i := 290) (by decide +kernel)⟩
theorem lw_p3 : lw_okq (⟨"java/lang/Throwable", "fillInStackTrace", "(I)Ljava/lang/Throwable;"⟩, 6) := ⟨⟨by decide +kernel, by decide +kernel⟩, List.mem_of_getElem? (i := 381) (by decide +kernel), List.mem_of_getElem? (i := 379) (by decide +kernel), List.mem_of_getElem? (i := 380) (by decide +kernel)⟩
theorem lw_p4 : lw_okq (⟨"CardOffice$Sorter", "fillPockets", "(LCardOffice$Deck;IZ)V"⟩, 3) := ⟨⟨by decide +kernel, by decide +kernel⟩, List.mem_of_getElem? (i := 52) (by decide +kernel), List.mem_of_getElem? (i := 415) (by decide +kernel), List.mem_of_getElem? (i := 416) (by decide +kernel)⟩
theorem lw_p5 : lw_okq (⟨"CardOffice$Sorter", "stackPockets", "()I"⟩, 3) := ⟨⟨by decide +kernel, by decide +kernel⟩, List.mem_of_getElem? (i := 52) (by decide +kernel), List.mem_of_getElem? (i := 436) (by decide +kernel), List.mem_of_getElem? (i := 437) (by decide +kernel)⟩
theorem lw_p6 : lw_okq (⟨"CardOffice$Board", "isFromExit", "(I)Z"⟩, 4) := ⟨⟨by decide +kernel, by decide +kernel⟩, List.mem_of_getElem? (i := 181) (by decide +kernel), List.mem_of_getElem? (i := 551) (by decide +kernel), List.mem_of_getElem? (i := 552) (by decide +kernel)⟩
theorem lw_p7 : lw_okq (⟨"CardOffice$Board", "signFrom", "(ILCardOffice$Card;)I"⟩, 4) := ⟨⟨by decide +kernel, by decide +kernel⟩, List.mem_of_getElem? (i := 181) (by decide +kernel), List.mem_of_getElem? (i := 559) (by decide +kernel), List.mem_of_getElem? (i := 560) (by decide +kernel)⟩
theorem lw_p8 : lw_okq (⟨"CardOffice$Reproducer", "newCard", "()LCardOffice$Card;"⟩, 1) := ⟨⟨by decide +kernel, by decide +kernel⟩, List.mem_of_getElem? (i := 109) (by decide +kernel), List.mem_of_getElem? (i := 571) (by decide +kernel), List.mem_of_getElem? (i := 572) (by decide +kernel)⟩
theorem lw_p9 : lw_okq (⟨"CardOffice$Reproducer", "punchInto", "(LCardOffice$Card;)V"⟩, 1) := ⟨⟨by decide +kernel, by decide +kernel⟩, List.mem_of_getElem? (i := 109) (by decide +kernel), List.mem_of_getElem? (i := 607) (by decide +kernel), List.mem_of_getElem? (i := 608) (by decide +kernel)⟩
theorem lw_p10 : lw_okq (⟨"CardOffice$Tabulator", "faultOfCard", "(LCardOffice$Board;LCardOffice$Card;IZ)I"⟩, 5) := ⟨⟨by decide +kernel, by decide +kernel⟩, List.mem_of_getElem? (i := 138) (by decide +kernel), List.mem_of_getElem? (i := 690) (by decide +kernel), List.mem_of_getElem? (i := 691) (by decide +kernel)⟩
theorem lw_p11 : lw_okq (⟨"CardOffice$Tabulator", "totalsClash", "(LCardOffice$Board;I)Z"⟩, 5) := ⟨⟨by decide +kernel, by decide +kernel⟩, List.mem_of_getElem? (i := 138) (by decide +kernel), List.mem_of_getElem? (i := 695) (by decide +kernel), List.mem_of_getElem? (i := 696) (by decide +kernel)⟩
theorem lw_p12 : lw_okq (⟨"CardOffice$Tabulator", "isAnyOverrun", "(LCardOffice$Board;I)Z"⟩, 5) := ⟨⟨by decide +kernel, by decide +kernel⟩, List.mem_of_getElem? (i := 138) (by decide +kernel), List.mem_of_getElem? (i := 707) (by decide +kernel), List.mem_of_getElem? (i := 708) (by decide +kernel)⟩
theorem lw_p13 : lw_okq (⟨"CardOffice$Tabulator", "entered", "(I)I"⟩, 5) := ⟨⟨by decide +kernel, by decide +kernel⟩, List.mem_of_getElem? (i := 138) (by decide +kernel), List.mem_of_getElem? (i := 711) (by decide +kernel), List.mem_of_getElem? (i := 712) (by decide +kernel)⟩
theorem lw_p14 : lw_okq (⟨"CardOffice$Tabulator", "doTotals", "(LCardOffice$Board;I)V"⟩, 5) := ⟨⟨by decide +kernel, by decide +kernel⟩, List.mem_of_getElem? (i := 138) (by decide +kernel), List.mem_of_getElem? (i := 731) (by decide +kernel), List.mem_of_getElem? (i := 732) (by decide +kernel)⟩
theorem lw_p15 : lw_okq (⟨"CardOffice$Tabulator", "clearCounters", "(LCardOffice$Board;I)V"⟩, 5) := ⟨⟨by decide +kernel, by decide +kernel⟩, List.mem_of_getElem? (i := 138) (by decide +kernel), List.mem_of_getElem? (i := 740) (by decide +kernel), List.mem_of_getElem? (i := 741) (by decide +kernel)⟩
def lw_privs_1 : List (MethodName × Nat) := [(⟨"CardOffice", "cardsInAll", "()I"⟩, 8), (⟨"CardOffice", "readColumns", "(JI)Z"⟩, 8), (⟨"CardOffice$Board", "hasWire", "(II)Z"⟩, 4), (⟨"java/lang/Throwable", "fillInStackTrace", "(I)Ljava/lang/Throwable;"⟩, 6), (⟨"CardOffice$Sorter", "fillPockets", "(LCardOffice$Deck;IZ)V"⟩, 3), (⟨"CardOffice$Sorter", "stackPockets", "()I"⟩, 3), (⟨"CardOffice$Board", "isFromExit", "(I)Z"⟩, 4), (⟨"CardOffice$Board", "signFrom", "(ILCardOffice$Card;)I"⟩, 4), (⟨"CardOffice$Reproducer", "newCard", "()LCardOffice$Card;"⟩, 1), (⟨"CardOffice$Reproducer", "punchInto", "(LCardOffice$Card;)V"⟩, 1), (⟨"CardOffice$Tabulator", "faultOfCard", "(LCardOffice$Board;LCardOffice$Card;IZ)I"⟩, 5), (⟨"CardOffice$Tabulator", "totalsClash", "(LCardOffice$Board;I)Z"⟩, 5), (⟨"CardOffice$Tabulator", "isAnyOverrun", "(LCardOffice$Board;I)Z"⟩, 5), (⟨"CardOffice$Tabulator", "entered", "(I)I"⟩, 5), (⟨"CardOffice$Tabulator", "doTotals", "(LCardOffice$Board;I)V"⟩, 5), (⟨"CardOffice$Tabulator", "clearCounters", "(LCardOffice$Board;I)V"⟩, 5)]
theorem lw_r1 : ∀ q ∈ lw_privs_1, lw_okq q := List.forall_mem_cons.mpr ⟨lw_p0, List.forall_mem_cons.mpr ⟨lw_p1, List.forall_mem_cons.mpr ⟨lw_p2, List.forall_mem_cons.mpr ⟨lw_p3, List.forall_mem_cons.mpr ⟨lw_p4, List.forall_mem_cons.mpr ⟨lw_p5, List.forall_mem_cons.mpr ⟨lw_p6, List.forall_mem_cons.mpr ⟨lw_p7, List.forall_mem_cons.mpr ⟨lw_p8, List.forall_mem_cons.mpr ⟨lw_p9, List.forall_mem_cons.mpr ⟨lw_p10, List.forall_mem_cons.mpr ⟨lw_p11, List.forall_mem_cons.mpr ⟨lw_p12, List.forall_mem_cons.mpr ⟨lw_p13, List.forall_mem_cons.mpr ⟨lw_p14, List.forall_mem_cons.mpr ⟨lw_p15, fun _ h => absurd h List.not_mem_nil⟩⟩⟩⟩⟩⟩⟩⟩⟩⟩⟩⟩⟩⟩⟩⟩
theorem lw_p16 : lw_okq (⟨"CardOffice$Tabulator", "doCard", "(Z)V"⟩, 5) := ⟨⟨by decide +kernel, by decide +kernel⟩, List.mem_of_getElem? (i := 138) (by decide +kernel), List.mem_of_getElem? (i := 744) (by decide +kernel), List.mem_of_getElem? (i := 745) (by decide +kernel)⟩
theorem lw_p17 : lw_okq (⟨"CardOffice$Tabulator", "finish", "(LCardOffice$Board;ILCardOffice$FaultLight;)I"⟩, 5) := ⟨⟨by decide +kernel, by decide +kernel⟩, List.mem_of_getElem? (i := 138) (by decide +kernel), List.mem_of_getElem? (i := 748) (by decide +kernel), List.mem_of_getElem? (i := 749) (by decide +kernel)⟩
theorem lw_p18 : lw_okq (⟨"CardOffice$Tabulator", "faultOfLastTotals", "(LCardOffice$Board;)I"⟩, 5) := ⟨⟨by decide +kernel, by decide +kernel⟩, List.mem_of_getElem? (i := 138) (by decide +kernel), List.mem_of_getElem? (i := 752) (by decide +kernel), List.mem_of_getElem? (i := 753) (by decide +kernel)⟩
theorem lw_p19 : lw_okq (⟨"CardOfficeModel", "newCard", "()I"⟩, 19) := ⟨⟨by decide +kernel, by decide +kernel⟩, List.mem_of_getElem? (i := 798) (by decide +kernel), List.mem_of_getElem? (i := 878) (by decide +kernel), List.mem_of_getElem? (i := 879) (by decide +kernel)⟩
theorem lw_p20 : lw_okq (⟨"CardOfficeModel", "add", "(II)V"⟩, 19) := ⟨⟨by decide +kernel, by decide +kernel⟩, List.mem_of_getElem? (i := 798) (by decide +kernel), List.mem_of_getElem? (i := 882) (by decide +kernel), List.mem_of_getElem? (i := 883) (by decide +kernel)⟩
theorem lw_p21 : lw_okq (⟨"CardOfficeModel", "sift", "(IIZ)I"⟩, 19) := ⟨⟨by decide +kernel, by decide +kernel⟩, List.mem_of_getElem? (i := 798) (by decide +kernel), List.mem_of_getElem? (i := 914) (by decide +kernel), List.mem_of_getElem? (i := 915) (by decide +kernel)⟩
theorem lw_p22 : lw_okq (⟨"CardOfficeModel", "cardAt", "(II)I"⟩, 19) := ⟨⟨by decide +kernel, by decide +kernel⟩, List.mem_of_getElem? (i := 798) (by decide +kernel), List.mem_of_getElem? (i := 918) (by decide +kernel), List.mem_of_getElem? (i := 919) (by decide +kernel)⟩
theorem lw_p23 : lw_okq (⟨"CardOfficeModel", "keyOf", "(IIZ)I"⟩, 19) := ⟨⟨by decide +kernel, by decide +kernel⟩, List.mem_of_getElem? (i := 798) (by decide +kernel), List.mem_of_getElem? (i := 922) (by decide +kernel), List.mem_of_getElem? (i := 923) (by decide +kernel)⟩
theorem lw_p24 : lw_okq (⟨"CardOfficeModel", "at", "(II)I"⟩, 19) := ⟨⟨by decide +kernel, by decide +kernel⟩, List.mem_of_getElem? (i := 798) (by decide +kernel), List.mem_of_getElem? (i := 926) (by decide +kernel), List.mem_of_getElem? (i := 927) (by decide +kernel)⟩
theorem lw_p25 : lw_okq (⟨"CardOfficeModel", "isSorted", "(III)Z"⟩, 19) := ⟨⟨by decide +kernel, by decide +kernel⟩, List.mem_of_getElem? (i := 798) (by decide +kernel), List.mem_of_getElem? (i := 943) (by decide +kernel), List.mem_of_getElem? (i := 944) (by decide +kernel)⟩
theorem lw_p26 : lw_okq (⟨"CardOfficeModel", "compare", "(IIII)I"⟩, 19) := ⟨⟨by decide +kernel, by decide +kernel⟩, List.mem_of_getElem? (i := 798) (by decide +kernel), List.mem_of_getElem? (i := 947) (by decide +kernel), List.mem_of_getElem? (i := 948) (by decide +kernel)⟩
theorem lw_p27 : lw_okq (⟨"CardOfficeModel", "putIn", "([SIIII)V"⟩, 19) := ⟨⟨by decide +kernel, by decide +kernel⟩, List.mem_of_getElem? (i := 798) (by decide +kernel), List.mem_of_getElem? (i := 954) (by decide +kernel), List.mem_of_getElem? (i := 955) (by decide +kernel)⟩
theorem lw_p28 : lw_okq (⟨"CardOfficeModel", "take", "(IIIII)I"⟩, 19) := ⟨⟨by decide +kernel, by decide +kernel⟩, List.mem_of_getElem? (i := 798) (by decide +kernel), List.mem_of_getElem? (i := 966) (by decide +kernel), List.mem_of_getElem? (i := 967) (by decide +kernel)⟩
theorem lw_p29 : lw_okq (⟨"CardOfficeModel", "hasKey", "(IIII)Z"⟩, 19) := ⟨⟨by decide +kernel, by decide +kernel⟩, List.mem_of_getElem? (i := 798) (by decide +kernel), List.mem_of_getElem? (i := 970) (by decide +kernel), List.mem_of_getElem? (i := 971) (by decide +kernel)⟩
theorem lw_p30 : lw_okq (⟨"CardOfficeModel", "leave", "(IIII)V"⟩, 19) := ⟨⟨by decide +kernel, by decide +kernel⟩, List.mem_of_getElem? (i := 798) (by decide +kernel), List.mem_of_getElem? (i := 974) (by decide +kernel), List.mem_of_getElem? (i := 975) (by decide +kernel)⟩
theorem lw_p31 : lw_okq (⟨"CardOfficeModel", "arrives", "(III)I"⟩, 19) := ⟨⟨by decide +kernel, by decide +kernel⟩, List.mem_of_getElem? (i := 798) (by decide +kernel), List.mem_of_getElem? (i := 982) (by decide +kernel), List.mem_of_getElem? (i := 983) (by decide +kernel)⟩
def lw_privs_2 : List (MethodName × Nat) := [(⟨"CardOffice$Tabulator", "doCard", "(Z)V"⟩, 5), (⟨"CardOffice$Tabulator", "finish", "(LCardOffice$Board;ILCardOffice$FaultLight;)I"⟩, 5), (⟨"CardOffice$Tabulator", "faultOfLastTotals", "(LCardOffice$Board;)I"⟩, 5), (⟨"CardOfficeModel", "newCard", "()I"⟩, 19), (⟨"CardOfficeModel", "add", "(II)V"⟩, 19), (⟨"CardOfficeModel", "sift", "(IIZ)I"⟩, 19), (⟨"CardOfficeModel", "cardAt", "(II)I"⟩, 19), (⟨"CardOfficeModel", "keyOf", "(IIZ)I"⟩, 19), (⟨"CardOfficeModel", "at", "(II)I"⟩, 19), (⟨"CardOfficeModel", "isSorted", "(III)Z"⟩, 19), (⟨"CardOfficeModel", "compare", "(IIII)I"⟩, 19), (⟨"CardOfficeModel", "putIn", "([SIIII)V"⟩, 19), (⟨"CardOfficeModel", "take", "(IIIII)I"⟩, 19), (⟨"CardOfficeModel", "hasKey", "(IIII)Z"⟩, 19), (⟨"CardOfficeModel", "leave", "(IIII)V"⟩, 19), (⟨"CardOfficeModel", "arrives", "(III)I"⟩, 19)]
theorem lw_r2 : ∀ q ∈ lw_privs_2, lw_okq q := List.forall_mem_cons.mpr ⟨lw_p16, List.forall_mem_cons.mpr ⟨lw_p17, List.forall_mem_cons.mpr ⟨lw_p18, List.forall_mem_cons.mpr ⟨lw_p19, List.forall_mem_cons.mpr ⟨lw_p20, List.forall_mem_cons.mpr ⟨lw_p21, List.forall_mem_cons.mpr ⟨lw_p22, List.forall_mem_cons.mpr ⟨lw_p23, List.forall_mem_cons.mpr ⟨lw_p24, List.forall_mem_cons.mpr ⟨lw_p25, List.forall_mem_cons.mpr ⟨lw_p26, List.forall_mem_cons.mpr ⟨lw_p27, List.forall_mem_cons.mpr ⟨lw_p28, List.forall_mem_cons.mpr ⟨lw_p29, List.forall_mem_cons.mpr ⟨lw_p30, List.forall_mem_cons.mpr ⟨lw_p31, fun _ h => absurd h List.not_mem_nil⟩⟩⟩⟩⟩⟩⟩⟩⟩⟩⟩⟩⟩⟩⟩⟩
theorem lw_p32 : lw_okq (⟨"CardOfficeModel", "brings", "(II)I"⟩, 19) := ⟨⟨by decide +kernel, by decide +kernel⟩, List.mem_of_getElem? (i := 798) (by decide +kernel), List.mem_of_getElem? (i := 986) (by decide +kernel), List.mem_of_getElem? (i := 987) (by decide +kernel)⟩
theorem lw_p33 : lw_okq (⟨"CardOfficeModel", "fails", "(II)I"⟩, 19) := ⟨⟨by decide +kernel, by decide +kernel⟩, List.mem_of_getElem? (i := 798) (by decide +kernel), List.mem_of_getElem? (i := 990) (by decide +kernel), List.mem_of_getElem? (i := 991) (by decide +kernel)⟩
theorem lw_p34 : lw_okq (⟨"CardOfficeModel", "faultOfGang", "(III)I"⟩, 19) := ⟨⟨by decide +kernel, by decide +kernel⟩, List.mem_of_getElem? (i := 798) (by decide +kernel), List.mem_of_getElem? (i := 998) (by decide +kernel), List.mem_of_getElem? (i := 999) (by decide +kernel)⟩
theorem lw_p35 : lw_okq (⟨"CardOfficeModel", "numberOf", "(II)I"⟩, 19) := ⟨⟨by decide +kernel, by decide +kernel⟩, List.mem_of_getElem? (i := 798) (by decide +kernel), List.mem_of_getElem? (i := 1012) (by decide +kernel), List.mem_of_getElem? (i := 1013) (by decide +kernel)⟩
theorem lw_p36 : lw_okq (⟨"CardOfficeModel", "punches", "(IIJZ)Z"⟩, 19) := ⟨⟨by decide +kernel, by decide +kernel⟩, List.mem_of_getElem? (i := 798) (by decide +kernel), List.mem_of_getElem? (i := 1021) (by decide +kernel), List.mem_of_getElem? (i := 1022) (by decide +kernel)⟩
theorem lw_p37 : lw_okq (⟨"CardOfficeModel", "breaks", "(IIII)Z"⟩, 19) := ⟨⟨by decide +kernel, by decide +kernel⟩, List.mem_of_getElem? (i := 798) (by decide +kernel), List.mem_of_getElem? (i := 1029) (by decide +kernel), List.mem_of_getElem? (i := 1030) (by decide +kernel)⟩
theorem lw_p38 : lw_okq (⟨"CardOfficeModel", "faultOfCard", "(III)I"⟩, 19) := ⟨⟨by decide +kernel, by decide +kernel⟩, List.mem_of_getElem? (i := 798) (by decide +kernel), List.mem_of_getElem? (i := 1033) (by decide +kernel), List.mem_of_getElem? (i := 1034) (by decide +kernel)⟩
theorem lw_p39 : lw_okq (⟨"CardOfficeModel", "isListed", "(I)Z"⟩, 19) := ⟨⟨by decide +kernel, by decide +kernel⟩, List.mem_of_getElem? (i := 798) (by decide +kernel), List.mem_of_getElem? (i := 1037) (by decide +kernel), List.mem_of_getElem? (i := 1038) (by decide +kernel)⟩
theorem lw_p40 : lw_okq (⟨"CardOfficeModel", "counts", "(III)Z"⟩, 19) := ⟨⟨by decide +kernel, by decide +kernel⟩, List.mem_of_getElem? (i := 798) (by decide +kernel), List.mem_of_getElem? (i := 1041) (by decide +kernel), List.mem_of_getElem? (i := 1042) (by decide +kernel)⟩
theorem lw_p41 : lw_okq (⟨"CardOfficeModel", "clashes", "(II)Z"⟩, 19) := ⟨⟨by decide +kernel, by decide +kernel⟩, List.mem_of_getElem? (i := 798) (by decide +kernel), List.mem_of_getElem? (i := 1045) (by decide +kernel), List.mem_of_getElem? (i := 1046) (by decide +kernel)⟩
theorem lw_p42 : lw_okq (⟨"CardOfficeModel", "totals", "(III)I"⟩, 19) := ⟨⟨by decide +kernel, by decide +kernel⟩, List.mem_of_getElem? (i := 798) (by decide +kernel), List.mem_of_getElem? (i := 1049) (by decide +kernel), List.mem_of_getElem? (i := 1050) (by decide +kernel)⟩
theorem lw_p43 : lw_okq (⟨"CardOfficeModel", "wheel", "(II)I"⟩, 19) := ⟨⟨by decide +kernel, by decide +kernel⟩, List.mem_of_getElem? (i := 798) (by decide +kernel), List.mem_of_getElem? (i := 1053) (by decide +kernel), List.mem_of_getElem? (i := 1054) (by decide +kernel)⟩
theorem lw_p44 : lw_okq (⟨"CardOfficeModel", "hasLevel", "(II)Z"⟩, 19) := ⟨⟨by decide +kernel, by decide +kernel⟩, List.mem_of_getElem? (i := 798) (by decide +kernel), List.mem_of_getElem? (i := 1057) (by decide +kernel), List.mem_of_getElem? (i := 1058) (by decide +kernel)⟩
theorem lw_p45 : lw_okq (⟨"CardOfficeModel", "tabulateCard", "(III)V"⟩, 19) := ⟨⟨by decide +kernel, by decide +kernel⟩, List.mem_of_getElem? (i := 798) (by decide +kernel), List.mem_of_getElem? (i := 1062) (by decide +kernel), List.mem_of_getElem? (i := 1063) (by decide +kernel)⟩
theorem lw_p46 : lw_okq (⟨"CardOfficeModel", "total", "(II)V"⟩, 19) := ⟨⟨by decide +kernel, by decide +kernel⟩, List.mem_of_getElem? (i := 798) (by decide +kernel), List.mem_of_getElem? (i := 1066) (by decide +kernel), List.mem_of_getElem? (i := 1067) (by decide +kernel)⟩
theorem lw_p47 : lw_okq (⟨"CardOfficeModel", "print", "(II)V"⟩, 19) := ⟨⟨by decide +kernel, by decide +kernel⟩, List.mem_of_getElem? (i := 798) (by decide +kernel), List.mem_of_getElem? (i := 1070) (by decide +kernel), List.mem_of_getElem? (i := 1071) (by decide +kernel)⟩
def lw_privs_3 : List (MethodName × Nat) := [(⟨"CardOfficeModel", "brings", "(II)I"⟩, 19), (⟨"CardOfficeModel", "fails", "(II)I"⟩, 19), (⟨"CardOfficeModel", "faultOfGang", "(III)I"⟩, 19), (⟨"CardOfficeModel", "numberOf", "(II)I"⟩, 19), (⟨"CardOfficeModel", "punches", "(IIJZ)Z"⟩, 19), (⟨"CardOfficeModel", "breaks", "(IIII)Z"⟩, 19), (⟨"CardOfficeModel", "faultOfCard", "(III)I"⟩, 19), (⟨"CardOfficeModel", "isListed", "(I)Z"⟩, 19), (⟨"CardOfficeModel", "counts", "(III)Z"⟩, 19), (⟨"CardOfficeModel", "clashes", "(II)Z"⟩, 19), (⟨"CardOfficeModel", "totals", "(III)I"⟩, 19), (⟨"CardOfficeModel", "wheel", "(II)I"⟩, 19), (⟨"CardOfficeModel", "hasLevel", "(II)Z"⟩, 19), (⟨"CardOfficeModel", "tabulateCard", "(III)V"⟩, 19), (⟨"CardOfficeModel", "total", "(II)V"⟩, 19), (⟨"CardOfficeModel", "print", "(II)V"⟩, 19)]
theorem lw_r3 : ∀ q ∈ lw_privs_3, lw_okq q := List.forall_mem_cons.mpr ⟨lw_p32, List.forall_mem_cons.mpr ⟨lw_p33, List.forall_mem_cons.mpr ⟨lw_p34, List.forall_mem_cons.mpr ⟨lw_p35, List.forall_mem_cons.mpr ⟨lw_p36, List.forall_mem_cons.mpr ⟨lw_p37, List.forall_mem_cons.mpr ⟨lw_p38, List.forall_mem_cons.mpr ⟨lw_p39, List.forall_mem_cons.mpr ⟨lw_p40, List.forall_mem_cons.mpr ⟨lw_p41, List.forall_mem_cons.mpr ⟨lw_p42, List.forall_mem_cons.mpr ⟨lw_p43, List.forall_mem_cons.mpr ⟨lw_p44, List.forall_mem_cons.mpr ⟨lw_p45, List.forall_mem_cons.mpr ⟨lw_p46, List.forall_mem_cons.mpr ⟨lw_p47, fun _ h => absurd h List.not_mem_nil⟩⟩⟩⟩⟩⟩⟩⟩⟩⟩⟩⟩⟩⟩⟩⟩
theorem lw_p48 : lw_okq (⟨"CardOfficeModel", "faultOfEnd", "(I)I"⟩, 19) := ⟨⟨by decide +kernel, by decide +kernel⟩, List.mem_of_getElem? (i := 798) (by decide +kernel), List.mem_of_getElem? (i := 1074) (by decide +kernel), List.mem_of_getElem? (i := 1075) (by decide +kernel)⟩
def lw_privs_4 : List (MethodName × Nat) := [(⟨"CardOfficeModel", "faultOfEnd", "(I)I"⟩, 19)]
theorem lw_r4 : ∀ q ∈ lw_privs_4, lw_okq q := List.forall_mem_cons.mpr ⟨lw_p48, fun _ h => absurd h List.not_mem_nil⟩
def lw_privs : List (MethodName × Nat) := lw_privs_1 ++ (lw_privs_2 ++ (lw_privs_3 ++ (lw_privs_4)))
def lw_tbl : List Cond := k2_sels lw_privs ++ tables_1
theorem lw_privs_ok : ∀ q ∈ lw_privs, lw_okq q := by
  show ∀ q ∈ lw_privs_1 ++ (lw_privs_2 ++ (lw_privs_3 ++ (lw_privs_4))), lw_okq q
  exact List.forall_mem_append.mpr ⟨lw_r1, List.forall_mem_append.mpr ⟨lw_r2, List.forall_mem_append.mpr ⟨lw_r3, lw_r4⟩⟩⟩
-- ===== names =====
def nm_Ts : List Cond := lw_tbl.filter goodWord
def nm_isNest : Cond → Bool
  | .fieldLinkNest _ _ _ _ _ _ => true
  | .methodLinkNest _ _ _ _ => true
  | .arrayOver (.object _) => true
  | .arrayOver (.array _) => true
  | .declares _ => true
  | .castable _ _ => true
  | .stringRef _ _ _ => true
  | .not (.castable _ _) => true
  | _ => false
def nm_Xw : Cond := .not (.castable "java/lang/IllegalStateException" "java/lang/IllegalArgumentException")
def nm_Ns : List Cond := (nm_Xw :: tables_1).filter nm_isNest
theorem nm_Xm : nm_Xw ∈ nm_Ns := List.mem_filter.mpr ⟨List.mem_cons_self, rfl⟩
theorem nm_good : ∀ w ∈ nm_Ts, goodWord w = true := fun _ h => (List.mem_filter.mp h).2
theorem nm_s {w : Cond} (i : Nat) (h : (k2_sels lw_privs)[i]? = some w) (hg : goodWord w = true) : w ∈ nm_Ts := List.mem_filter.mpr ⟨List.mem_append_left _ (List.mem_of_getElem? h), hg⟩
theorem nm_t1 {w : Cond} (i : Nat) (h : tables_1_1[i]? = some w) (hg : goodWord w = true) : w ∈ nm_Ts := List.mem_filter.mpr ⟨List.mem_append_right _ (show w ∈ tables_1 from List.mem_append_left _ (List.mem_of_getElem? h)), hg⟩
theorem nm_n1 {w : Cond} (i : Nat) (h : tables_1_1[i]? = some w) (hg : nm_isNest w = true) : w ∈ nm_Ns := List.mem_filter.mpr ⟨List.mem_cons_of_mem _ (show w ∈ tables_1 from List.mem_append_left _ (List.mem_of_getElem? h)), hg⟩
theorem nm_t2 {w : Cond} (i : Nat) (h : tables_1_2[i]? = some w) (hg : goodWord w = true) : w ∈ nm_Ts := List.mem_filter.mpr ⟨List.mem_append_right _ (show w ∈ tables_1 from List.mem_append_right _ (List.mem_append_left _ (List.mem_of_getElem? h))), hg⟩
theorem nm_n2 {w : Cond} (i : Nat) (h : tables_1_2[i]? = some w) (hg : nm_isNest w = true) : w ∈ nm_Ns := List.mem_filter.mpr ⟨List.mem_cons_of_mem _ (show w ∈ tables_1 from List.mem_append_right _ (List.mem_append_left _ (List.mem_of_getElem? h))), hg⟩
theorem nm_t3 {w : Cond} (i : Nat) (h : tables_1_3[i]? = some w) (hg : goodWord w = true) : w ∈ nm_Ts := List.mem_filter.mpr ⟨List.mem_append_right _ (show w ∈ tables_1 from List.mem_append_right _ (List.mem_append_right _ (List.mem_append_left _ (List.mem_of_getElem? h)))), hg⟩
theorem nm_n3 {w : Cond} (i : Nat) (h : tables_1_3[i]? = some w) (hg : nm_isNest w = true) : w ∈ nm_Ns := List.mem_filter.mpr ⟨List.mem_cons_of_mem _ (show w ∈ tables_1 from List.mem_append_right _ (List.mem_append_right _ (List.mem_append_left _ (List.mem_of_getElem? h)))), hg⟩
theorem nm_t4 {w : Cond} (i : Nat) (h : tables_1_4[i]? = some w) (hg : goodWord w = true) : w ∈ nm_Ts := List.mem_filter.mpr ⟨List.mem_append_right _ (show w ∈ tables_1 from List.mem_append_right _ (List.mem_append_right _ (List.mem_append_right _ (List.mem_append_left _ (List.mem_of_getElem? h))))), hg⟩
theorem nm_n4 {w : Cond} (i : Nat) (h : tables_1_4[i]? = some w) (hg : nm_isNest w = true) : w ∈ nm_Ns := List.mem_filter.mpr ⟨List.mem_cons_of_mem _ (show w ∈ tables_1 from List.mem_append_right _ (List.mem_append_right _ (List.mem_append_right _ (List.mem_append_left _ (List.mem_of_getElem? h))))), hg⟩
theorem nm_t5 {w : Cond} (i : Nat) (h : tables_1_5[i]? = some w) (hg : goodWord w = true) : w ∈ nm_Ts := List.mem_filter.mpr ⟨List.mem_append_right _ (show w ∈ tables_1 from List.mem_append_right _ (List.mem_append_right _ (List.mem_append_right _ (List.mem_append_right _ (List.mem_of_getElem? h))))), hg⟩
theorem nm_n5 {w : Cond} (i : Nat) (h : tables_1_5[i]? = some w) (hg : nm_isNest w = true) : w ∈ nm_Ns := List.mem_filter.mpr ⟨List.mem_cons_of_mem _ (show w ∈ tables_1 from List.mem_append_right _ (List.mem_append_right _ (List.mem_append_right _ (List.mem_append_right _ (List.mem_of_getElem? h))))), hg⟩
theorem nm_Ns_call {U : State} {g : JFrame} {mk : MethodId} {a : Array Value} (w : Cond) (h : w ∈ nm_Ns) (hZ : va_Nw w U) : va_Nw w (U.calling g mk a) := by
  have h2 := (List.mem_filter.mp h).2
  cases w <;> first | (cases h2; done) | exact th_sref (State.WarmedH.refl U) hZ | exact va_Nw.same rfl (rfl : U.vm = (U.calling g mk a).vm) hZ | (rename_i w9; cases w9 <;> first | (cases h2; done) | exact th_ncast (Vm.Alike.refl U.vm) hZ) | (rename_i ty; cases ty <;> first | exact va_AO.moved (Vm.Alike.refl U.vm) hZ | exact th_aoa (Vm.Alike.refl U.vm) hZ | (cases h2)) | (cases h2)
theorem nm_Ns_warm {s U : State} (w : Cond) (h : w ∈ nm_Ns) (hW : s.WarmedH U.vm) (hZ : va_Nw w s) : va_Nw w U := by
  have h2 := (List.mem_filter.mp h).2
  cases w <;> first | (cases h2; done) | exact va_Nw.warmF hW hZ | exact va_Nw.warmM hW hZ | exact va_Nw.warmC hW hZ | exact th_sref hW hZ | exact th_rideD hW hZ | (rename_i w9; cases w9 <;> first | (cases h2; done) | exact th_ncast hW.alike hZ) | (rename_i ty; cases ty <;> first | exact va_AO.moved hW.alike hZ | exact th_aoa hW.alike hZ | (cases h2)) | (cases h2)
def nm_Hh : List (ByteArray × List (Nat × Nat × Nat × Nat)) := [(method_3_code, [(0, 12, 15, 13)]), (method_4_code, [(0, 12, 15, 13)]), (method_5_code, [(0, 14, 17, 13), (0, 14, 21, 23)]), (method_6_code, [(0, 16, 19, 13), (0, 16, 23, 23)]), (method_7_code, [(0, 12, 15, 13)]), (method_8_code, [(0, 12, 15, 13)]), (method_9_code, [(0, 14, 17, 13)]), (method_10_code, [(0, 10, 13, 13)]), (method_11_code, [(0, 12, 15, 45)]), (method_12_code, [(0, 10, 13, 45)]), (method_13_code, [(0, 9, 12, 45)])]
/-- the exception tables of the law's own methods -/
def nm_Hd (cc : ByteArray) : List (Nat × Nat × Nat × Nat) := ((nm_Hh.find? (fun q => decide (q.1 = cc))).map Prod.snd).getD []
def nm_host : String := "CardOffice"
def nm_Ow : List String := ["CardOffice", "CardOffice$Board", "CardOffice$Card", "CardOffice$Collator", "CardOffice$Deck", "CardOffice$FaultLight", "CardOffice$Jacks", "CardOffice$Paper", "CardOffice$Reproducer", "CardOffice$Sorter", "CardOffice$Tabulator", "CardOfficeModel", "CardOffice$Multiplier", "CardOfficeLaw", "java/util/Arrays", "java/lang/Integer"]
def nm_Own (cn : Nat) : String := nm_Ow.getD cn ""
def nm_Ty : List FieldType := [.int, .byte, .short, .long, .object "CardOffice$Deck", .object "CardOffice$Board", .object "CardOffice$Card", .array .int]
theorem nm_ty0 : nm_Ty[0]? = some .int := rfl
theorem nm_ty1 : nm_Ty[1]? = some .byte := rfl
theorem nm_ty2 : nm_Ty[2]? = some .short := rfl
theorem nm_ty3 : nm_Ty[3]? = some .long := rfl
def nm_T0 : u_T := fun k => match k with
  | 0 => ("CardOffice", "decks", "[LCardOffice$Deck;", true)
  | 1 => ("CardOffice", "boards", "[LCardOffice$Board;", true)
  | 2 => ("CardOffice", "columnsRead", "[I", true)
  | 3 => ("CardOffice", "light", "LCardOffice$FaultLight;", true)
  | 4 => ("CardOffice", "sorter", "LCardOffice$Sorter;", true)
  | 5 => ("CardOffice", "collator", "LCardOffice$Collator;", true)
  | 6 => ("CardOffice", "reproducer", "LCardOffice$Reproducer;", true)
  | _ => ("CardOffice", "tabulator", "LCardOffice$Tabulator;", true)
def nm_Y0 : Nat → FieldType := fun k => match k with
  | 0 => .array (.object "CardOffice$Deck")
  | 1 => .array (.object "CardOffice$Board")
  | 2 => .array (.int)
  | 3 => .object "CardOffice$FaultLight"
  | 4 => .object "CardOffice$Sorter"
  | 5 => .object "CardOffice$Collator"
  | 6 => .object "CardOffice$Reproducer"
  | _ => .object "CardOffice$Tabulator"
def nm_T1 : u_T := fun k => match k with
  | 0 => ("CardOffice$Board", "from", "[I", true)
  | 1 => ("CardOffice$Board", "to", "[I", true)
  | 2 => ("CardOffice$Board", "levels", "[I", true)
  | _ => ("CardOffice$Board", "wires", "I", false)
def nm_Y1 : Nat → FieldType := fun k => match k with
  | 0 => .array (.int)
  | 1 => .array (.int)
  | 2 => .array (.int)
  | _ => .int
def nm_T2 : u_T := fun k => match k with
  | _ => ("CardOffice$Card", "signs", "[I", true)
def nm_Y2 : Nat → FieldType := fun k => match k with
  | _ => .array (.int)
def nm_T3 : u_T := fun k => match k with
  | 0 => ("CardOffice$Collator", "rest", "LCardOffice$Deck;", true)
  | 1 => ("CardOffice$Collator", "otherRest", "LCardOffice$Deck;", true)
  | _ => ("CardOffice$Collator", "brought", "I", false)
def nm_Y3 : Nat → FieldType := fun k => match k with
  | 0 => .object "CardOffice$Deck"
  | 1 => .object "CardOffice$Deck"
  | _ => .int
def nm_T4 : u_T := fun k => match k with
  | 0 => ("CardOffice$Deck", "cards", "[LCardOffice$Card;", true)
  | _ => ("CardOffice$Deck", "size", "I", false)
def nm_Y4 : Nat → FieldType := fun k => match k with
  | 0 => .array (.object "CardOffice$Card")
  | _ => .int
def nm_T5 : u_T := fun k => match k with
  | 0 => ("CardOffice$FaultLight", "kind", "I", false)
  | _ => ("CardOffice$FaultLight", "place", "I", false)
def nm_Y5 : Nat → FieldType := fun k => match k with
  | 0 => .int
  | _ => .int
def nm_T6 : u_T := fun k => match k with
  | 0 => ("CardOffice$Jacks", "firstJack", "I", true)
  | 1 => ("CardOffice$Jacks", "signs", "[I", true)
  | _ => ("CardOffice$Jacks", "clashed", "Z", false)
def nm_Y6 : Nat → FieldType := fun k => match k with
  | 0 => .int
  | 1 => .array (.int)
  | _ => .boolean
def nm_T7 : u_T := fun k => match k with
  | 0 => ("CardOffice$Paper", "signs", "[[I", true)
  | _ => ("CardOffice$Paper", "lines", "I", false)
def nm_Y7 : Nat → FieldType := fun k => match k with
  | 0 => .array (.array (.int))
  | _ => .int
def nm_T8 : u_T := fun k => match k with
  | _ => ("CardOffice$Reproducer", "columns", "LCardOffice$Jacks;", true)
def nm_Y8 : Nat → FieldType := fun k => match k with
  | _ => .object "CardOffice$Jacks"
def nm_T9 : u_T := fun k => match k with
  | 0 => ("CardOffice$Sorter", "places", "[I", true)
  | 1 => ("CardOffice$Sorter", "stacked", "[LCardOffice$Card;", true)
  | _ => ("CardOffice$Sorter", "passes", "I", false)
def nm_Y9 : Nat → FieldType := fun k => match k with
  | 0 => .array (.int)
  | 1 => .array (.object "CardOffice$Card")
  | _ => .int
def nm_T10 : u_T := fun k => match k with
  | 0 => ("CardOffice$Tabulator", "counters", "[I", true)
  | 1 => ("CardOffice$Tabulator", "paper", "LCardOffice$Paper;", true)
  | 2 => ("CardOffice$Tabulator", "totalLine", "LCardOffice$Jacks;", true)
  | 3 => ("CardOffice$Tabulator", "cardLine", "LCardOffice$Jacks;", true)
  | _ => ("CardOffice$Tabulator", "entries", "LCardOffice$Jacks;", true)
def nm_Y10 : Nat → FieldType := fun k => match k with
  | 0 => .array (.int)
  | 1 => .object "CardOffice$Paper"
  | 2 => .object "CardOffice$Jacks"
  | 3 => .object "CardOffice$Jacks"
  | _ => .object "CardOffice$Jacks"
def nm_T11 : u_T := fun k => match k with
  | 0 => ("CardOfficeModel", "thrown", "I", false)
  | 1 => ("CardOfficeModel", "cards", "I", false)
  | 2 => ("CardOfficeModel", "signs", "[B", true)
  | 3 => ("CardOfficeModel", "decks", "[S", true)
  | 4 => ("CardOfficeModel", "sizes", "[I", true)
  | 5 => ("CardOfficeModel", "spare", "[S", true)
  | 6 => ("CardOfficeModel", "rest", "[S", true)
  | 7 => ("CardOfficeModel", "wireFrom", "[B", true)
  | 8 => ("CardOfficeModel", "wireTo", "[B", true)
  | 9 => ("CardOfficeModel", "wires", "[I", true)
  | 10 => ("CardOfficeModel", "levels", "[I", true)
  | 11 => ("CardOfficeModel", "counters", "[I", true)
  | 12 => ("CardOfficeModel", "after", "[I", true)
  | 13 => ("CardOfficeModel", "paper", "[B", true)
  | 14 => ("CardOfficeModel", "lines", "I", false)
  | 15 => ("CardOfficeModel", "passes", "I", false)
  | 16 => ("CardOfficeModel", "brought", "I", false)
  | 17 => ("CardOfficeModel", "faulty", "I", false)
  | _ => ("CardOfficeModel", "faultyAt", "I", false)
def nm_Y11 : Nat → FieldType := fun k => match k with
  | 0 => .int
  | 1 => .int
  | 2 => .array (.byte)
  | 3 => .array (.short)
  | 4 => .array (.int)
  | 5 => .array (.short)
  | 6 => .array (.short)
  | 7 => .array (.byte)
  | 8 => .array (.byte)
  | 9 => .array (.int)
  | 10 => .array (.int)
  | 11 => .array (.int)
  | 12 => .array (.int)
  | 13 => .array (.byte)
  | 14 => .int
  | 15 => .int
  | 16 => .int
  | 17 => .int
  | _ => .int
def nm_Cl : List vw_C := [("CardOffice", nm_T0, 8), ("CardOffice$Board", nm_T1, 4), ("CardOffice$Card", nm_T2, 1), ("CardOffice$Collator", nm_T3, 3), ("CardOffice$Deck", nm_T4, 2), ("CardOffice$FaultLight", nm_T5, 2), ("CardOffice$Jacks", nm_T6, 3), ("CardOffice$Paper", nm_T7, 2), ("CardOffice$Reproducer", nm_T8, 1), ("CardOffice$Sorter", nm_T9, 3), ("CardOffice$Tabulator", nm_T10, 5), ("CardOfficeModel", nm_T11, 19)]
theorem nm_Cl_1000 {q : vw_C} : nm_Cl[1000]? ≠ some q := fun h => by cases h
def nm_FTy (ci k : Nat) : FieldType := match ci with
  | 0 => nm_Y0 k
  | 1 => nm_Y1 k
  | 2 => nm_Y2 k
  | 3 => nm_Y3 k
  | 4 => nm_Y4 k
  | 5 => nm_Y5 k
  | 6 => nm_Y6 k
  | 7 => nm_Y7 k
  | 8 => nm_Y8 k
  | 9 => nm_Y9 k
  | 10 => nm_Y10 k
  | 11 => nm_Y11 k
  | _ => .int
def nm_Fin (ci k : Nat) : Bool := match ci with
  | 0 => (nm_T0 k).2.2.2
  | 1 => (nm_T1 k).2.2.2
  | 2 => (nm_T2 k).2.2.2
  | 3 => (nm_T3 k).2.2.2
  | 4 => (nm_T4 k).2.2.2
  | 5 => (nm_T5 k).2.2.2
  | 6 => (nm_T6 k).2.2.2
  | 7 => (nm_T7 k).2.2.2
  | 8 => (nm_T8 k).2.2.2
  | 9 => (nm_T9 k).2.2.2
  | 10 => (nm_T10 k).2.2.2
  | 11 => (nm_T11 k).2.2.2
  | _ => false
theorem nm_in0 : ∀ w ∈ u_ws "CardOffice" nm_T0 8, w ∈ nm_Ts := by
  intro w hw
  obtain ⟨k, hk, rfl⟩ := List.mem_map.mp hw
  have hk := List.mem_range.mp hk
  match k, hk with
  | 0, _ => exact nm_t1 213 rfl rfl
  | 1, _ => exact nm_t1 215 rfl rfl
  | 2, _ => exact nm_t1 217 rfl rfl
  | 3, _ => exact nm_t1 219 rfl rfl
  | 4, _ => exact nm_t1 221 rfl rfl
  | 5, _ => exact nm_t1 223 rfl rfl
  | 6, _ => exact nm_t1 225 rfl rfl
  | 7, _ => exact nm_t1 227 rfl rfl
  | k + 8, h => exact absurd h (by omega)
theorem nm_nm0 : ∀ a, a < 8 → ∀ b, b < 8 → a ≠ b → (nm_T0 a).2.1 ≠ (nm_T0 b).2.1 := by decide +kernel
theorem nm_pt0 : ∀ k, k < 8 → parseFieldDescriptor (nm_T0 k).2.2.1 = some (nm_Y0 k) := by decide +kernel
theorem nm_ow0 : ∀ k, k < 8 → (nm_T0 k).1 = "CardOffice" := by decide +kernel
theorem nm_in1 : ∀ w ∈ u_ws "CardOffice$Board" nm_T1 4, w ∈ nm_Ts := by
  intro w hw
  obtain ⟨k, hk, rfl⟩ := List.mem_map.mp hw
  have hk := List.mem_range.mp hk
  match k, hk with
  | 0, _ => exact nm_t1 196 rfl rfl
  | 1, _ => exact nm_t1 198 rfl rfl
  | 2, _ => exact nm_t1 200 rfl rfl
  | 3, _ => exact nm_t1 202 rfl rfl
  | k + 4, h => exact absurd h (by omega)
theorem nm_nm1 : ∀ a, a < 4 → ∀ b, b < 4 → a ≠ b → (nm_T1 a).2.1 ≠ (nm_T1 b).2.1 := by decide +kernel
theorem nm_pt1 : ∀ k, k < 4 → parseFieldDescriptor (nm_T1 k).2.2.1 = some (nm_Y1 k) := by decide +kernel
theorem nm_ow1 : ∀ k, k < 4 → (nm_T1 k).1 = "CardOffice$Board" := by decide +kernel
theorem nm_in2 : ∀ w ∈ u_ws "CardOffice$Card" nm_T2 1, w ∈ nm_Ts := by
  intro w hw
  obtain ⟨k, hk, rfl⟩ := List.mem_map.mp hw
  have hk := List.mem_range.mp hk
  match k, hk with
  | 0, _ => exact nm_t2 21 rfl rfl
  | k + 1, h => exact absurd h (by omega)
theorem nm_nm2 : ∀ a, a < 1 → ∀ b, b < 1 → a ≠ b → (nm_T2 a).2.1 ≠ (nm_T2 b).2.1 := by decide +kernel
theorem nm_pt2 : ∀ k, k < 1 → parseFieldDescriptor (nm_T2 k).2.2.1 = some (nm_Y2 k) := by decide +kernel
theorem nm_ow2 : ∀ k, k < 1 → (nm_T2 k).1 = "CardOffice$Card" := by decide +kernel
theorem nm_in3 : ∀ w ∈ u_ws "CardOffice$Collator" nm_T3 3, w ∈ nm_Ts := by
  intro w hw
  obtain ⟨k, hk, rfl⟩ := List.mem_map.mp hw
  have hk := List.mem_range.mp hk
  match k, hk with
  | 0, _ => exact nm_t1 101 rfl rfl
  | 1, _ => exact nm_t1 103 rfl rfl
  | 2, _ => exact nm_t1 105 rfl rfl
  | k + 3, h => exact absurd h (by omega)
theorem nm_nm3 : ∀ a, a < 3 → ∀ b, b < 3 → a ≠ b → (nm_T3 a).2.1 ≠ (nm_T3 b).2.1 := by decide +kernel
theorem nm_pt3 : ∀ k, k < 3 → parseFieldDescriptor (nm_T3 k).2.2.1 = some (nm_Y3 k) := by decide +kernel
theorem nm_ow3 : ∀ k, k < 3 → (nm_T3 k).1 = "CardOffice$Collator" := by decide +kernel
theorem nm_in4 : ∀ w ∈ u_ws "CardOffice$Deck" nm_T4 2, w ∈ nm_Ts := by
  intro w hw
  obtain ⟨k, hk, rfl⟩ := List.mem_map.mp hw
  have hk := List.mem_range.mp hk
  match k, hk with
  | 0, _ => exact nm_t1 92 rfl rfl
  | 1, _ => exact nm_t1 94 rfl rfl
  | k + 2, h => exact absurd h (by omega)
theorem nm_nm4 : ∀ a, a < 2 → ∀ b, b < 2 → a ≠ b → (nm_T4 a).2.1 ≠ (nm_T4 b).2.1 := by decide +kernel
theorem nm_pt4 : ∀ k, k < 2 → parseFieldDescriptor (nm_T4 k).2.2.1 = some (nm_Y4 k) := by decide +kernel
theorem nm_ow4 : ∀ k, k < 2 → (nm_T4 k).1 = "CardOffice$Deck" := by decide +kernel
theorem nm_in5 : ∀ w ∈ u_ws "CardOffice$FaultLight" nm_T5 2, w ∈ nm_Ts := by
  intro w hw
  obtain ⟨k, hk, rfl⟩ := List.mem_map.mp hw
  have hk := List.mem_range.mp hk
  match k, hk with
  | 0, _ => exact nm_t1 45 rfl rfl
  | 1, _ => exact nm_t1 47 rfl rfl
  | k + 2, h => exact absurd h (by omega)
theorem nm_nm5 : ∀ a, a < 2 → ∀ b, b < 2 → a ≠ b → (nm_T5 a).2.1 ≠ (nm_T5 b).2.1 := by decide +kernel
theorem nm_pt5 : ∀ k, k < 2 → parseFieldDescriptor (nm_T5 k).2.2.1 = some (nm_Y5 k) := by decide +kernel
theorem nm_ow5 : ∀ k, k < 2 → (nm_T5 k).1 = "CardOffice$FaultLight" := by decide +kernel
theorem nm_in6 : ∀ w ∈ u_ws "CardOffice$Jacks" nm_T6 3, w ∈ nm_Ts := by
  intro w hw
  obtain ⟨k, hk, rfl⟩ := List.mem_map.mp hw
  have hk := List.mem_range.mp hk
  match k, hk with
  | 0, _ => exact nm_t1 126 rfl rfl
  | 1, _ => exact nm_t1 128 rfl rfl
  | 2, _ => exact nm_t1 130 rfl rfl
  | k + 3, h => exact absurd h (by omega)
theorem nm_nm6 : ∀ a, a < 3 → ∀ b, b < 3 → a ≠ b → (nm_T6 a).2.1 ≠ (nm_T6 b).2.1 := by decide +kernel
theorem nm_pt6 : ∀ k, k < 3 → parseFieldDescriptor (nm_T6 k).2.2.1 = some (nm_Y6 k) := by decide +kernel
theorem nm_ow6 : ∀ k, k < 3 → (nm_T6 k).1 = "CardOffice$Jacks" := by decide +kernel
theorem nm_in7 : ∀ w ∈ u_ws "CardOffice$Paper" nm_T7 2, w ∈ nm_Ts := by
  intro w hw
  obtain ⟨k, hk, rfl⟩ := List.mem_map.mp hw
  have hk := List.mem_range.mp hk
  match k, hk with
  | 0, _ => exact nm_t1 155 rfl rfl
  | 1, _ => exact nm_t1 157 rfl rfl
  | k + 2, h => exact absurd h (by omega)
theorem nm_nm7 : ∀ a, a < 2 → ∀ b, b < 2 → a ≠ b → (nm_T7 a).2.1 ≠ (nm_T7 b).2.1 := by decide +kernel
theorem nm_pt7 : ∀ k, k < 2 → parseFieldDescriptor (nm_T7 k).2.2.1 = some (nm_Y7 k) := by decide +kernel
theorem nm_ow7 : ∀ k, k < 2 → (nm_T7 k).1 = "CardOffice$Paper" := by decide +kernel
theorem nm_in8 : ∀ w ∈ u_ws "CardOffice$Reproducer" nm_T8 1, w ∈ nm_Ts := by
  intro w hw
  obtain ⟨k, hk, rfl⟩ := List.mem_map.mp hw
  have hk := List.mem_range.mp hk
  match k, hk with
  | 0, _ => exact nm_t1 134 rfl rfl
  | k + 1, h => exact absurd h (by omega)
theorem nm_nm8 : ∀ a, a < 1 → ∀ b, b < 1 → a ≠ b → (nm_T8 a).2.1 ≠ (nm_T8 b).2.1 := by decide +kernel
theorem nm_pt8 : ∀ k, k < 1 → parseFieldDescriptor (nm_T8 k).2.2.1 = some (nm_Y8 k) := by decide +kernel
theorem nm_ow8 : ∀ k, k < 1 → (nm_T8 k).1 = "CardOffice$Reproducer" := by decide +kernel
theorem nm_in9 : ∀ w ∈ u_ws "CardOffice$Sorter" nm_T9 3, w ∈ nm_Ts := by
  intro w hw
  obtain ⟨k, hk, rfl⟩ := List.mem_map.mp hw
  have hk := List.mem_range.mp hk
  match k, hk with
  | 0, _ => exact nm_t1 63 rfl rfl
  | 1, _ => exact nm_t1 65 rfl rfl
  | 2, _ => exact nm_t1 67 rfl rfl
  | k + 3, h => exact absurd h (by omega)
theorem nm_nm9 : ∀ a, a < 3 → ∀ b, b < 3 → a ≠ b → (nm_T9 a).2.1 ≠ (nm_T9 b).2.1 := by decide +kernel
theorem nm_pt9 : ∀ k, k < 3 → parseFieldDescriptor (nm_T9 k).2.2.1 = some (nm_Y9 k) := by decide +kernel
theorem nm_ow9 : ∀ k, k < 3 → (nm_T9 k).1 = "CardOffice$Sorter" := by decide +kernel
theorem nm_in10 : ∀ w ∈ u_ws "CardOffice$Tabulator" nm_T10 5, w ∈ nm_Ts := by
  intro w hw
  obtain ⟨k, hk, rfl⟩ := List.mem_map.mp hw
  have hk := List.mem_range.mp hk
  match k, hk with
  | 0, _ => exact nm_t1 169 rfl rfl
  | 1, _ => exact nm_t1 171 rfl rfl
  | 2, _ => exact nm_t1 173 rfl rfl
  | 3, _ => exact nm_t1 175 rfl rfl
  | 4, _ => exact nm_t1 177 rfl rfl
  | k + 5, h => exact absurd h (by omega)
theorem nm_nm10 : ∀ a, a < 5 → ∀ b, b < 5 → a ≠ b → (nm_T10 a).2.1 ≠ (nm_T10 b).2.1 := by decide +kernel
theorem nm_pt10 : ∀ k, k < 5 → parseFieldDescriptor (nm_T10 k).2.2.1 = some (nm_Y10 k) := by decide +kernel
theorem nm_ow10 : ∀ k, k < 5 → (nm_T10 k).1 = "CardOffice$Tabulator" := by decide +kernel
theorem nm_in11 : ∀ w ∈ u_ws "CardOfficeModel" nm_T11 19, w ∈ nm_Ts := by
  intro w hw
  obtain ⟨k, hk, rfl⟩ := List.mem_map.mp hw
  have hk := List.mem_range.mp hk
  match k, hk with
  | 0, _ => exact nm_t4 102 rfl rfl
  | 1, _ => exact nm_t4 104 rfl rfl
  | 2, _ => exact nm_t4 106 rfl rfl
  | 3, _ => exact nm_t4 108 rfl rfl
  | 4, _ => exact nm_t4 110 rfl rfl
  | 5, _ => exact nm_t4 112 rfl rfl
  | 6, _ => exact nm_t4 114 rfl rfl
  | 7, _ => exact nm_t4 116 rfl rfl
  | 8, _ => exact nm_t4 118 rfl rfl
  | 9, _ => exact nm_t4 120 rfl rfl
  | 10, _ => exact nm_t4 122 rfl rfl
  | 11, _ => exact nm_t4 124 rfl rfl
  | 12, _ => exact nm_t4 126 rfl rfl
  | 13, _ => exact nm_t4 128 rfl rfl
  | 14, _ => exact nm_t4 130 rfl rfl
  | 15, _ => exact nm_t4 132 rfl rfl
  | 16, _ => exact nm_t4 134 rfl rfl
  | 17, _ => exact nm_t4 136 rfl rfl
  | 18, _ => exact nm_t4 138 rfl rfl
  | k + 19, h => exact absurd h (by omega)
theorem nm_nm11 : ∀ a, a < 19 → ∀ b, b < 19 → a ≠ b → (nm_T11 a).2.1 ≠ (nm_T11 b).2.1 := by decide +kernel
theorem nm_pt11 : ∀ k, k < 19 → parseFieldDescriptor (nm_T11 k).2.2.1 = some (nm_Y11 k) := by decide +kernel
theorem nm_ow11 : ∀ k, k < 19 → (nm_T11 k).1 = "CardOfficeModel" := by decide +kernel
theorem nm_Cl_ws {ci : Nat} {C : String} {T : u_T} {N : Nat} (hc : nm_Cl[ci]? = some (C, T, N)) : ∀ w ∈ u_ws C T N, w ∈ nm_Ts := by
  match ci, hc with
  | 0, hc => cases hc; exact nm_in0
  | 1, hc => cases hc; exact nm_in1
  | 2, hc => cases hc; exact nm_in2
  | 3, hc => cases hc; exact nm_in3
  | 4, hc => cases hc; exact nm_in4
  | 5, hc => cases hc; exact nm_in5
  | 6, hc => cases hc; exact nm_in6
  | 7, hc => cases hc; exact nm_in7
  | 8, hc => cases hc; exact nm_in8
  | 9, hc => cases hc; exact nm_in9
  | 10, hc => cases hc; exact nm_in10
  | 11, hc => cases hc; exact nm_in11
  | k + 12, hc => exact absurd (List.getElem?_eq_some_iff.mp hc).1 (by simp [nm_Cl])
theorem nm_Cl_nm {ci : Nat} {C : String} {T : u_T} {N : Nat} (hc : nm_Cl[ci]? = some (C, T, N)) : ∀ a, a < N → ∀ b, b < N → a ≠ b → (T a).2.1 ≠ (T b).2.1 := by
  match ci, hc with
  | 0, hc => cases hc; exact nm_nm0
  | 1, hc => cases hc; exact nm_nm1
  | 2, hc => cases hc; exact nm_nm2
  | 3, hc => cases hc; exact nm_nm3
  | 4, hc => cases hc; exact nm_nm4
  | 5, hc => cases hc; exact nm_nm5
  | 6, hc => cases hc; exact nm_nm6
  | 7, hc => cases hc; exact nm_nm7
  | 8, hc => cases hc; exact nm_nm8
  | 9, hc => cases hc; exact nm_nm9
  | 10, hc => cases hc; exact nm_nm10
  | 11, hc => cases hc; exact nm_nm11
  | k + 12, hc => exact absurd (List.getElem?_eq_some_iff.mp hc).1 (by simp [nm_Cl])
theorem nm_Cl_ty {ci : Nat} {C : String} {T : u_T} {N : Nat} (hc : nm_Cl[ci]? = some (C, T, N)) : ∀ k, k < N → parseFieldDescriptor (T k).2.2.1 = some (nm_FTy ci k) := by
  match ci, hc with
  | 0, hc => cases hc; exact nm_pt0
  | 1, hc => cases hc; exact nm_pt1
  | 2, hc => cases hc; exact nm_pt2
  | 3, hc => cases hc; exact nm_pt3
  | 4, hc => cases hc; exact nm_pt4
  | 5, hc => cases hc; exact nm_pt5
  | 6, hc => cases hc; exact nm_pt6
  | 7, hc => cases hc; exact nm_pt7
  | 8, hc => cases hc; exact nm_pt8
  | 9, hc => cases hc; exact nm_pt9
  | 10, hc => cases hc; exact nm_pt10
  | 11, hc => cases hc; exact nm_pt11
  | k + 12, hc => exact absurd (List.getElem?_eq_some_iff.mp hc).1 (by simp [nm_Cl])
theorem nm_Cl_own {ci : Nat} {C : String} {T : u_T} {N : Nat} (hc : nm_Cl[ci]? = some (C, T, N)) : ∀ k, k < N → (T k).1 = nm_Own ci := by
  match ci, hc with
  | 0, hc => cases hc; exact nm_ow0
  | 1, hc => cases hc; exact nm_ow1
  | 2, hc => cases hc; exact nm_ow2
  | 3, hc => cases hc; exact nm_ow3
  | 4, hc => cases hc; exact nm_ow4
  | 5, hc => cases hc; exact nm_ow5
  | 6, hc => cases hc; exact nm_ow6
  | 7, hc => cases hc; exact nm_ow7
  | 8, hc => cases hc; exact nm_ow8
  | 9, hc => cases hc; exact nm_ow9
  | 10, hc => cases hc; exact nm_ow10
  | 11, hc => cases hc; exact nm_ow11
  | k + 12, hc => exact absurd (List.getElem?_eq_some_iff.mp hc).1 (by simp [nm_Cl])
theorem nm_Fin_ok {ci : Nat} {C : String} {T : u_T} {N k : Nat} (hc : nm_Cl[ci]? = some (C, T, N)) (hk : k < N) : nm_Fin ci k = (T k).2.2.2 := by
  match ci, hc with
  | 0, hc => cases hc; rfl
  | 1, hc => cases hc; rfl
  | 2, hc => cases hc; rfl
  | 3, hc => cases hc; rfl
  | 4, hc => cases hc; rfl
  | 5, hc => cases hc; rfl
  | 6, hc => cases hc; rfl
  | 7, hc => cases hc; rfl
  | 8, hc => cases hc; rfl
  | 9, hc => cases hc; rfl
  | 10, hc => cases hc; rfl
  | 11, hc => cases hc; rfl
  | k + 12, hc => exact absurd (List.getElem?_eq_some_iff.mp hc).1 (by simp [nm_Cl])
def nm_FL : List (Nat × Nat × Nat × Nat × Bool) := [(0, 11, 0, 0, true), (0, 17, 0, 1, true), (0, 21, 0, 2, true), (0, 28, 0, 3, true), (0, 35, 0, 4, true), (0, 42, 0, 5, true), (0, 49, 0, 6, true), (0, 56, 0, 7, true), (0, 77, 2, 0, false), (0, 103, 1, 2, false), (0, 183, 4, 1, false), (0, 200, 10, 1, false), (0, 204, 7, 1, false), (0, 211, 7, 0, false), (0, 216, 10, 0, false), (0, 219, 5, 0, false), (0, 222, 5, 1, false), (0, 225, 1, 3, false), (0, 228, 9, 2, false), (0, 231, 3, 2, false), (1, 9, 1, 0, true), (1, 15, 1, 1, true), (1, 18, 1, 2, true), (1, 27, 1, 3, true), (1, 35, 2, 0, false), (2, 9, 2, 0, true), (3, 10, 3, 0, true), (3, 16, 3, 1, true), (3, 19, 4, 1, false), (3, 23, 3, 2, true), (4, 11, 4, 0, true), (4, 17, 4, 1, true), (4, 35, 2, 0, false), (5, 9, 5, 0, true), (5, 15, 5, 1, true), (6, 9, 6, 0, true), (6, 15, 6, 1, true), (6, 25, 6, 2, true), (7, 11, 7, 0, true), (7, 16, 7, 1, true), (8, 14, 8, 0, true), (8, 20, 4, 1, false), (8, 36, 6, 2, false), (8, 58, 2, 0, false), (8, 78, 6, 1, false), (9, 9, 9, 0, true), (9, 17, 9, 1, true), (9, 21, 9, 2, true), (9, 33, 4, 1, false), (9, 46, 4, 0, false), (9, 67, 2, 0, false), (10, 9, 10, 0, true), (10, 18, 10, 1, true), (10, 27, 10, 2, true), (10, 31, 10, 3, true), (10, 34, 10, 4, true), (10, 49, 4, 1, false), (10, 101, 6, 2, false), (10, 120, 1, 2, false), (11, 7, 11, 2, true), (11, 13, 11, 3, true), (11, 17, 11, 4, true), (11, 21, 11, 5, true), (11, 24, 11, 6, true), (11, 27, 11, 7, true), (11, 30, 11, 8, true), (11, 33, 11, 9, true), (11, 36, 11, 10, true), (11, 39, 11, 11, true), (11, 42, 11, 12, true), (11, 45, 11, 13, true), (11, 48, 11, 18, true), (11, 52, 11, 0, true), (11, 62, 11, 1, true), (11, 105, 11, 15, true), (11, 133, 11, 16, true), (11, 148, 11, 17, true), (11, 188, 11, 14, true), (12, 9, 4, 1, false), (12, 66, 2, 0, false)]
def nm_Fld (cn idx : Nat) : Option (Nat × Nat) := (nm_FL.find? (fun q => q.1 == cn && q.2.1 == idx)).map (fun q => (q.2.2.1, q.2.2.2.1))
def nm_FldF (cn idx : Nat) : Bool := ((nm_FL.find? (fun q => q.1 == cn && q.2.1 == idx)).map (fun q => q.2.2.2.2)).getD false
def nm_FP (q : Nat × Nat × Nat × Nat × Bool) : Prop := ∃ C T N, nm_Cl[q.2.2.1]? = some (C, T, N) ∧ q.2.2.2.1 < N ∧ (if q.2.2.2.2 = true then Cond.fieldLink (nm_Own q.1) q.2.1 (T q.2.2.2.1).1 (T q.2.2.2.1).2.1 (T q.2.2.2.1).2.2.1 ∈ nm_Ts else Cond.fieldLinkNest (nm_Own q.1) q.2.1 (T q.2.2.2.1).1 (T q.2.2.2.1).2.1 (T q.2.2.2.1).2.2.1 nm_host ∈ nm_Ns)
theorem nm_f0 : nm_FP (0, 11, 0, 0, true) := ⟨"CardOffice", nm_T0, 8, rfl, (by decide : 0 < 8), nm_t1 205 rfl rfl⟩
theorem nm_f1 : nm_FP (0, 17, 0, 1, true) := ⟨"CardOffice", nm_T0, 8, rfl, (by decide : 1 < 8), nm_t1 206 rfl rfl⟩
theorem nm_f2 : nm_FP (0, 21, 0, 2, true) := ⟨"CardOffice", nm_T0, 8, rfl, (by decide : 2 < 8), nm_t1 207 rfl rfl⟩
theorem nm_f3 : nm_FP (0, 28, 0, 3, true) := ⟨"CardOffice", nm_T0, 8, rfl, (by decide : 3 < 8), nm_t1 208 rfl rfl⟩
theorem nm_f4 : nm_FP (0, 35, 0, 4, true) := ⟨"CardOffice", nm_T0, 8, rfl, (by decide : 4 < 8), nm_t1 209 rfl rfl⟩
theorem nm_f5 : nm_FP (0, 42, 0, 5, true) := ⟨"CardOffice", nm_T0, 8, rfl, (by decide : 5 < 8), nm_t1 210 rfl rfl⟩
theorem nm_f6 : nm_FP (0, 49, 0, 6, true) := ⟨"CardOffice", nm_T0, 8, rfl, (by decide : 6 < 8), nm_t1 211 rfl rfl⟩
theorem nm_f7 : nm_FP (0, 56, 0, 7, true) := ⟨"CardOffice", nm_T0, 8, rfl, (by decide : 7 < 8), nm_t1 212 rfl rfl⟩
theorem nm_f8 : nm_FP (0, 77, 2, 0, false) := ⟨"CardOffice$Card", nm_T2, 1, rfl, (by decide : 0 < 1), nm_n2 15 rfl rfl⟩
theorem nm_f9 : nm_FP (0, 103, 1, 2, false) := ⟨"CardOffice$Board", nm_T1, 4, rfl, (by decide : 2 < 4), nm_n1 192 rfl rfl⟩
theorem nm_f10 : nm_FP (0, 183, 4, 1, false) := ⟨"CardOffice$Deck", nm_T4, 2, rfl, (by decide : 1 < 2), nm_n1 91 rfl rfl⟩
theorem nm_f11 : nm_FP (0, 200, 10, 1, false) := ⟨"CardOffice$Tabulator", nm_T10, 5, rfl, (by decide : 1 < 5), nm_n1 165 rfl rfl⟩
theorem nm_f12 : nm_FP (0, 204, 7, 1, false) := ⟨"CardOffice$Paper", nm_T7, 2, rfl, (by decide : 1 < 2), nm_n1 154 rfl rfl⟩
theorem nm_f13 : nm_FP (0, 211, 7, 0, false) := ⟨"CardOffice$Paper", nm_T7, 2, rfl, (by decide : 0 < 2), nm_n1 152 rfl rfl⟩
theorem nm_f14 : nm_FP (0, 216, 10, 0, false) := ⟨"CardOffice$Tabulator", nm_T10, 5, rfl, (by decide : 0 < 5), nm_n1 163 rfl rfl⟩
theorem nm_f15 : nm_FP (0, 219, 5, 0, false) := ⟨"CardOffice$FaultLight", nm_T5, 2, rfl, (by decide : 0 < 2), nm_n1 42 rfl rfl⟩
theorem nm_f16 : nm_FP (0, 222, 5, 1, false) := ⟨"CardOffice$FaultLight", nm_T5, 2, rfl, (by decide : 1 < 2), nm_n1 44 rfl rfl⟩
theorem nm_f17 : nm_FP (0, 225, 1, 3, false) := ⟨"CardOffice$Board", nm_T1, 4, rfl, (by decide : 3 < 4), nm_n1 195 rfl rfl⟩
theorem nm_f18 : nm_FP (0, 228, 9, 2, false) := ⟨"CardOffice$Sorter", nm_T9, 3, rfl, (by decide : 2 < 3), nm_n1 62 rfl rfl⟩
theorem nm_f19 : nm_FP (0, 231, 3, 2, false) := ⟨"CardOffice$Collator", nm_T3, 3, rfl, (by decide : 2 < 3), nm_n1 100 rfl rfl⟩
theorem nm_f20 : nm_FP (1, 9, 1, 0, true) := ⟨"CardOffice$Board", nm_T1, 4, rfl, (by decide : 0 < 4), nm_t1 189 rfl rfl⟩
theorem nm_f21 : nm_FP (1, 15, 1, 1, true) := ⟨"CardOffice$Board", nm_T1, 4, rfl, (by decide : 1 < 4), nm_t1 190 rfl rfl⟩
theorem nm_f22 : nm_FP (1, 18, 1, 2, true) := ⟨"CardOffice$Board", nm_T1, 4, rfl, (by decide : 2 < 4), nm_t1 191 rfl rfl⟩
theorem nm_f23 : nm_FP (1, 27, 1, 3, true) := ⟨"CardOffice$Board", nm_T1, 4, rfl, (by decide : 3 < 4), nm_t1 194 rfl rfl⟩
theorem nm_f24 : nm_FP (1, 35, 2, 0, false) := ⟨"CardOffice$Card", nm_T2, 1, rfl, (by decide : 0 < 1), nm_n2 19 rfl rfl⟩
theorem nm_f25 : nm_FP (2, 9, 2, 0, true) := ⟨"CardOffice$Card", nm_T2, 1, rfl, (by decide : 0 < 1), nm_t2 14 rfl rfl⟩
theorem nm_f26 : nm_FP (3, 10, 3, 0, true) := ⟨"CardOffice$Collator", nm_T3, 3, rfl, (by decide : 0 < 3), nm_t1 97 rfl rfl⟩
theorem nm_f27 : nm_FP (3, 16, 3, 1, true) := ⟨"CardOffice$Collator", nm_T3, 3, rfl, (by decide : 1 < 3), nm_t1 98 rfl rfl⟩
theorem nm_f28 : nm_FP (3, 19, 4, 1, false) := ⟨"CardOffice$Deck", nm_T4, 2, rfl, (by decide : 1 < 2), nm_n1 85 rfl rfl⟩
theorem nm_f29 : nm_FP (3, 23, 3, 2, true) := ⟨"CardOffice$Collator", nm_T3, 3, rfl, (by decide : 2 < 3), nm_t1 99 rfl rfl⟩
theorem nm_f30 : nm_FP (4, 11, 4, 0, true) := ⟨"CardOffice$Deck", nm_T4, 2, rfl, (by decide : 0 < 2), nm_t1 83 rfl rfl⟩
theorem nm_f31 : nm_FP (4, 17, 4, 1, true) := ⟨"CardOffice$Deck", nm_T4, 2, rfl, (by decide : 1 < 2), nm_t1 90 rfl rfl⟩
theorem nm_f32 : nm_FP (4, 35, 2, 0, false) := ⟨"CardOffice$Card", nm_T2, 1, rfl, (by decide : 0 < 1), nm_n2 20 rfl rfl⟩
theorem nm_f33 : nm_FP (5, 9, 5, 0, true) := ⟨"CardOffice$FaultLight", nm_T5, 2, rfl, (by decide : 0 < 2), nm_t1 41 rfl rfl⟩
theorem nm_f34 : nm_FP (5, 15, 5, 1, true) := ⟨"CardOffice$FaultLight", nm_T5, 2, rfl, (by decide : 1 < 2), nm_t1 43 rfl rfl⟩
theorem nm_f35 : nm_FP (6, 9, 6, 0, true) := ⟨"CardOffice$Jacks", nm_T6, 3, rfl, (by decide : 0 < 3), nm_t1 120 rfl rfl⟩
theorem nm_f36 : nm_FP (6, 15, 6, 1, true) := ⟨"CardOffice$Jacks", nm_T6, 3, rfl, (by decide : 1 < 3), nm_t1 121 rfl rfl⟩
theorem nm_f37 : nm_FP (6, 25, 6, 2, true) := ⟨"CardOffice$Jacks", nm_T6, 3, rfl, (by decide : 2 < 3), nm_t1 123 rfl rfl⟩
theorem nm_f38 : nm_FP (7, 11, 7, 0, true) := ⟨"CardOffice$Paper", nm_T7, 2, rfl, (by decide : 0 < 2), nm_t1 151 rfl rfl⟩
theorem nm_f39 : nm_FP (7, 16, 7, 1, true) := ⟨"CardOffice$Paper", nm_T7, 2, rfl, (by decide : 1 < 2), nm_t1 153 rfl rfl⟩
theorem nm_f40 : nm_FP (8, 14, 8, 0, true) := ⟨"CardOffice$Reproducer", nm_T8, 1, rfl, (by decide : 0 < 1), nm_t1 133 rfl rfl⟩
theorem nm_f41 : nm_FP (8, 20, 4, 1, false) := ⟨"CardOffice$Deck", nm_T4, 2, rfl, (by decide : 1 < 2), nm_n1 86 rfl rfl⟩
theorem nm_f42 : nm_FP (8, 36, 6, 2, false) := ⟨"CardOffice$Jacks", nm_T6, 3, rfl, (by decide : 2 < 3), nm_n1 124 rfl rfl⟩
theorem nm_f43 : nm_FP (8, 58, 2, 0, false) := ⟨"CardOffice$Card", nm_T2, 1, rfl, (by decide : 0 < 1), nm_n2 16 rfl rfl⟩
theorem nm_f44 : nm_FP (8, 78, 6, 1, false) := ⟨"CardOffice$Jacks", nm_T6, 3, rfl, (by decide : 1 < 3), nm_n1 122 rfl rfl⟩
theorem nm_f45 : nm_FP (9, 9, 9, 0, true) := ⟨"CardOffice$Sorter", nm_T9, 3, rfl, (by decide : 0 < 3), nm_t1 59 rfl rfl⟩
theorem nm_f46 : nm_FP (9, 17, 9, 1, true) := ⟨"CardOffice$Sorter", nm_T9, 3, rfl, (by decide : 1 < 3), nm_t1 60 rfl rfl⟩
theorem nm_f47 : nm_FP (9, 21, 9, 2, true) := ⟨"CardOffice$Sorter", nm_T9, 3, rfl, (by decide : 2 < 3), nm_t1 61 rfl rfl⟩
theorem nm_f48 : nm_FP (9, 33, 4, 1, false) := ⟨"CardOffice$Deck", nm_T4, 2, rfl, (by decide : 1 < 2), nm_n1 89 rfl rfl⟩
theorem nm_f49 : nm_FP (9, 46, 4, 0, false) := ⟨"CardOffice$Deck", nm_T4, 2, rfl, (by decide : 0 < 2), nm_n1 84 rfl rfl⟩
theorem nm_f50 : nm_FP (9, 67, 2, 0, false) := ⟨"CardOffice$Card", nm_T2, 1, rfl, (by decide : 0 < 1), nm_n2 18 rfl rfl⟩
theorem nm_f51 : nm_FP (10, 9, 10, 0, true) := ⟨"CardOffice$Tabulator", nm_T10, 5, rfl, (by decide : 0 < 5), nm_t1 162 rfl rfl⟩
theorem nm_f52 : nm_FP (10, 18, 10, 1, true) := ⟨"CardOffice$Tabulator", nm_T10, 5, rfl, (by decide : 1 < 5), nm_t1 164 rfl rfl⟩
theorem nm_f53 : nm_FP (10, 27, 10, 2, true) := ⟨"CardOffice$Tabulator", nm_T10, 5, rfl, (by decide : 2 < 5), nm_t1 166 rfl rfl⟩
theorem nm_f54 : nm_FP (10, 31, 10, 3, true) := ⟨"CardOffice$Tabulator", nm_T10, 5, rfl, (by decide : 3 < 5), nm_t1 167 rfl rfl⟩
theorem nm_f55 : nm_FP (10, 34, 10, 4, true) := ⟨"CardOffice$Tabulator", nm_T10, 5, rfl, (by decide : 4 < 5), nm_t1 168 rfl rfl⟩
theorem nm_f56 : nm_FP (10, 49, 4, 1, false) := ⟨"CardOffice$Deck", nm_T4, 2, rfl, (by decide : 1 < 2), nm_n1 88 rfl rfl⟩
theorem nm_f57 : nm_FP (10, 101, 6, 2, false) := ⟨"CardOffice$Jacks", nm_T6, 3, rfl, (by decide : 2 < 3), nm_n1 125 rfl rfl⟩
theorem nm_f58 : nm_FP (10, 120, 1, 2, false) := ⟨"CardOffice$Board", nm_T1, 4, rfl, (by decide : 2 < 4), nm_n1 193 rfl rfl⟩
theorem nm_f59 : nm_FP (11, 7, 11, 2, true) := ⟨"CardOfficeModel", nm_T11, 19, rfl, (by decide : 2 < 19), nm_t4 85 rfl rfl⟩
theorem nm_f60 : nm_FP (11, 13, 11, 3, true) := ⟨"CardOfficeModel", nm_T11, 19, rfl, (by decide : 3 < 19), nm_t4 86 rfl rfl⟩
theorem nm_f61 : nm_FP (11, 17, 11, 4, true) := ⟨"CardOfficeModel", nm_T11, 19, rfl, (by decide : 4 < 19), nm_t4 87 rfl rfl⟩
theorem nm_f62 : nm_FP (11, 21, 11, 5, true) := ⟨"CardOfficeModel", nm_T11, 19, rfl, (by decide : 5 < 19), nm_t4 88 rfl rfl⟩
theorem nm_f63 : nm_FP (11, 24, 11, 6, true) := ⟨"CardOfficeModel", nm_T11, 19, rfl, (by decide : 6 < 19), nm_t4 89 rfl rfl⟩
theorem nm_f64 : nm_FP (11, 27, 11, 7, true) := ⟨"CardOfficeModel", nm_T11, 19, rfl, (by decide : 7 < 19), nm_t4 90 rfl rfl⟩
theorem nm_f65 : nm_FP (11, 30, 11, 8, true) := ⟨"CardOfficeModel", nm_T11, 19, rfl, (by decide : 8 < 19), nm_t4 91 rfl rfl⟩
theorem nm_f66 : nm_FP (11, 33, 11, 9, true) := ⟨"CardOfficeModel", nm_T11, 19, rfl, (by decide : 9 < 19), nm_t4 92 rfl rfl⟩
theorem nm_f67 : nm_FP (11, 36, 11, 10, true) := ⟨"CardOfficeModel", nm_T11, 19, rfl, (by decide : 10 < 19), nm_t4 93 rfl rfl⟩
theorem nm_f68 : nm_FP (11, 39, 11, 11, true) := ⟨"CardOfficeModel", nm_T11, 19, rfl, (by decide : 11 < 19), nm_t4 94 rfl rfl⟩
theorem nm_f69 : nm_FP (11, 42, 11, 12, true) := ⟨"CardOfficeModel", nm_T11, 19, rfl, (by decide : 12 < 19), nm_t4 95 rfl rfl⟩
theorem nm_f70 : nm_FP (11, 45, 11, 13, true) := ⟨"CardOfficeModel", nm_T11, 19, rfl, (by decide : 13 < 19), nm_t4 96 rfl rfl⟩
theorem nm_f71 : nm_FP (11, 48, 11, 18, true) := ⟨"CardOfficeModel", nm_T11, 19, rfl, (by decide : 18 < 19), nm_t4 101 rfl rfl⟩
theorem nm_f72 : nm_FP (11, 52, 11, 0, true) := ⟨"CardOfficeModel", nm_T11, 19, rfl, (by decide : 0 < 19), nm_t4 83 rfl rfl⟩
theorem nm_f73 : nm_FP (11, 62, 11, 1, true) := ⟨"CardOfficeModel", nm_T11, 19, rfl, (by decide : 1 < 19), nm_t4 84 rfl rfl⟩
theorem nm_f74 : nm_FP (11, 105, 11, 15, true) := ⟨"CardOfficeModel", nm_T11, 19, rfl, (by decide : 15 < 19), nm_t4 98 rfl rfl⟩
theorem nm_f75 : nm_FP (11, 133, 11, 16, true) := ⟨"CardOfficeModel", nm_T11, 19, rfl, (by decide : 16 < 19), nm_t4 99 rfl rfl⟩
theorem nm_f76 : nm_FP (11, 148, 11, 17, true) := ⟨"CardOfficeModel", nm_T11, 19, rfl, (by decide : 17 < 19), nm_t4 100 rfl rfl⟩
theorem nm_f77 : nm_FP (11, 188, 11, 14, true) := ⟨"CardOfficeModel", nm_T11, 19, rfl, (by decide : 14 < 19), nm_t4 97 rfl rfl⟩
theorem nm_f78 : nm_FP (12, 9, 4, 1, false) := ⟨"CardOffice$Deck", nm_T4, 2, rfl, (by decide : 1 < 2), nm_n1 87 rfl rfl⟩
theorem nm_f79 : nm_FP (12, 66, 2, 0, false) := ⟨"CardOffice$Card", nm_T2, 1, rfl, (by decide : 0 < 1), nm_n2 17 rfl rfl⟩
set_option maxRecDepth 20000 in
theorem nm_FL_ok : ∀ q ∈ nm_FL, nm_FP q := List.forall_mem_cons.mpr ⟨nm_f0, List.forall_mem_cons.mpr ⟨nm_f1, List.forall_mem_cons.mpr ⟨nm_f2, List.forall_mem_cons.mpr ⟨nm_f3, List.forall_mem_cons.mpr ⟨nm_f4, List.forall_mem_cons.mpr ⟨nm_f5, List.forall_mem_cons.mpr ⟨nm_f6, List.forall_mem_cons.mpr ⟨nm_f7, List.forall_mem_cons.mpr ⟨nm_f8, List.forall_mem_cons.mpr ⟨nm_f9, List.forall_mem_cons.mpr ⟨nm_f10, List.forall_mem_cons.mpr ⟨nm_f11, List.forall_mem_cons.mpr ⟨nm_f12, List.forall_mem_cons.mpr ⟨nm_f13, List.forall_mem_cons.mpr ⟨nm_f14, List.forall_mem_cons.mpr ⟨nm_f15, List.forall_mem_cons.mpr ⟨nm_f16, List.forall_mem_cons.mpr ⟨nm_f17, List.forall_mem_cons.mpr ⟨nm_f18, List.forall_mem_cons.mpr ⟨nm_f19, List.forall_mem_cons.mpr ⟨nm_f20, List.forall_mem_cons.mpr ⟨nm_f21, List.forall_mem_cons.mpr ⟨nm_f22, List.forall_mem_cons.mpr ⟨nm_f23, List.forall_mem_cons.mpr ⟨nm_f24, List.forall_mem_cons.mpr ⟨nm_f25, List.forall_mem_cons.mpr ⟨nm_f26, List.forall_mem_cons.mpr ⟨nm_f27, List.forall_mem_cons.mpr ⟨nm_f28, List.forall_mem_cons.mpr ⟨nm_f29, List.forall_mem_cons.mpr ⟨nm_f30, List.forall_mem_cons.mpr ⟨nm_f31, List.forall_mem_cons.mpr ⟨nm_f32, List.forall_mem_cons.mpr ⟨nm_f33, List.forall_mem_cons.mpr ⟨nm_f34, List.forall_mem_cons.mpr ⟨nm_f35, List.forall_mem_cons.mpr ⟨nm_f36, List.forall_mem_cons.mpr ⟨nm_f37, List.forall_mem_cons.mpr ⟨nm_f38, List.forall_mem_cons.mpr ⟨nm_f39, List.forall_mem_cons.mpr ⟨nm_f40, List.forall_mem_cons.mpr ⟨nm_f41, List.forall_mem_cons.mpr ⟨nm_f42, List.forall_mem_cons.mpr ⟨nm_f43, List.forall_mem_cons.mpr ⟨nm_f44, List.forall_mem_cons.mpr ⟨nm_f45, List.forall_mem_cons.mpr ⟨nm_f46, List.forall_mem_cons.mpr ⟨nm_f47, List.forall_mem_cons.mpr ⟨nm_f48, List.forall_mem_cons.mpr ⟨nm_f49, List.forall_mem_cons.mpr ⟨nm_f50, List.forall_mem_cons.mpr ⟨nm_f51, List.forall_mem_cons.mpr ⟨nm_f52, List.forall_mem_cons.mpr ⟨nm_f53, List.forall_mem_cons.mpr ⟨nm_f54, List.forall_mem_cons.mpr ⟨nm_f55, List.forall_mem_cons.mpr ⟨nm_f56, List.forall_mem_cons.mpr ⟨nm_f57, List.forall_mem_cons.mpr ⟨nm_f58, List.forall_mem_cons.mpr ⟨nm_f59, List.forall_mem_cons.mpr ⟨nm_f60, List.forall_mem_cons.mpr ⟨nm_f61, List.forall_mem_cons.mpr ⟨nm_f62, List.forall_mem_cons.mpr ⟨nm_f63, List.forall_mem_cons.mpr ⟨nm_f64, List.forall_mem_cons.mpr ⟨nm_f65, List.forall_mem_cons.mpr ⟨nm_f66, List.forall_mem_cons.mpr ⟨nm_f67, List.forall_mem_cons.mpr ⟨nm_f68, List.forall_mem_cons.mpr ⟨nm_f69, List.forall_mem_cons.mpr ⟨nm_f70, List.forall_mem_cons.mpr ⟨nm_f71, List.forall_mem_cons.mpr ⟨nm_f72, List.forall_mem_cons.mpr ⟨nm_f73, List.forall_mem_cons.mpr ⟨nm_f74, List.forall_mem_cons.mpr ⟨nm_f75, List.forall_mem_cons.mpr ⟨nm_f76, List.forall_mem_cons.mpr ⟨nm_f77, List.forall_mem_cons.mpr ⟨nm_f78, List.forall_mem_cons.mpr ⟨nm_f79, fun _ h => absurd h List.not_mem_nil⟩⟩⟩⟩⟩⟩⟩⟩⟩⟩⟩⟩⟩⟩⟩⟩⟩⟩⟩⟩⟩⟩⟩⟩⟩⟩⟩⟩⟩⟩⟩⟩⟩⟩⟩⟩⟩⟩⟩⟩⟩⟩⟩⟩⟩⟩⟩⟩⟩⟩⟩⟩⟩⟩⟩⟩⟩⟩⟩⟩⟩⟩⟩⟩⟩⟩⟩⟩⟩⟩⟩⟩⟩⟩⟩⟩⟩⟩⟩⟩
theorem nm_Fld_ok {cn idx ci k : Nat} (h : nm_Fld cn idx = some (ci, k)) : ∃ C T N, nm_Cl[ci]? = some (C, T, N) ∧ k < N ∧ (Cond.fieldLink (nm_Own cn) idx (T k).1 (T k).2.1 (T k).2.2.1 ∈ nm_Ts ∨ Cond.fieldLinkNest (nm_Own cn) idx (T k).1 (T k).2.1 (T k).2.2.1 nm_host ∈ nm_Ns) := by
  unfold nm_Fld at h
  obtain ⟨q, hq, he⟩ := Option.map_eq_some_iff.mp h
  have h1 := nm_FL_ok q (List.mem_of_find?_eq_some hq)
  have h2 := List.find?_some hq
  simp only [Bool.and_eq_true, beq_iff_eq] at h2
  obtain ⟨a, b, c, d, e⟩ := q
  obtain ⟨rfl, rfl⟩ := h2
  cases he
  obtain ⟨C, T, N, g1, g2, g3⟩ := h1
  refine ⟨C, T, N, g1, g2, ?_⟩
  cases e with
  | true => exact Or.inl g3
  | false => exact Or.inr g3
theorem nm_FldF_ok {cn idx ci k : Nat} (h : nm_Fld cn idx = some (ci, k)) (hF : nm_FldF cn idx = true) : ∃ C T N, nm_Cl[ci]? = some (C, T, N) ∧ k < N ∧ Cond.fieldLink (nm_Own cn) idx (T k).1 (T k).2.1 (T k).2.2.1 ∈ nm_Ts := by
  unfold nm_Fld at h
  obtain ⟨q, hq, he⟩ := Option.map_eq_some_iff.mp h
  have h1 := nm_FL_ok q (List.mem_of_find?_eq_some hq)
  have h2 := List.find?_some hq
  simp only [Bool.and_eq_true, beq_iff_eq] at h2
  unfold nm_FldF at hF
  rw [hq] at hF
  obtain ⟨a, b, c, d, e⟩ := q
  obtain ⟨rfl, rfl⟩ := h2
  cases he
  obtain ⟨C, T, N, g1, g2, g3⟩ := h1
  refine ⟨C, T, N, g1, g2, ?_⟩
  have : e = true := hF
  subst this
  exact g3
def nm_St : List (Nat × String × String × String) := [(1000000000001, "CardOffice", "POWERS", "[I")]
def nm_SL : List (Nat × Nat × Bool) := [(12, 45, false), (1, 64, false), (10, 126, false)]
def nm_Sta (cn idx : Nat) : Option Nat := (nm_SL.find? (fun q => q.1 == cn && q.2.1 == idx)).map (fun _ => 1000000000001)
def nm_SP (q : Nat × Nat × Bool) : Prop := if q.2.2 = true then Cond.fieldLink (nm_Own q.1) q.2.1 "CardOffice" "POWERS" "[I" ∈ nm_Ts else Cond.fieldLinkNest (nm_Own q.1) q.2.1 "CardOffice" "POWERS" "[I" nm_host ∈ nm_Ns
theorem nm_sf0 : nm_SP (12, 45, false) := nm_n3 171 rfl rfl
theorem nm_sf1 : nm_SP (1, 64, false) := nm_n3 225 rfl rfl
theorem nm_sf2 : nm_SP (10, 126, false) := nm_n3 237 rfl rfl
theorem nm_SL_ok : ∀ q ∈ nm_SL, nm_SP q := List.forall_mem_cons.mpr ⟨nm_sf0, List.forall_mem_cons.mpr ⟨nm_sf1, List.forall_mem_cons.mpr ⟨nm_sf2, fun _ h => absurd h List.not_mem_nil⟩⟩⟩
theorem nm_Sta_ok {cn idx a : Nat} (h : nm_Sta cn idx = some a) : ∃ q ∈ nm_St, q.1 = a ∧ (Cond.fieldLink (nm_Own cn) idx q.2.1 q.2.2.1 q.2.2.2 ∈ nm_Ts ∨ Cond.fieldLinkNest (nm_Own cn) idx q.2.1 q.2.2.1 q.2.2.2 nm_host ∈ nm_Ns) := by
  unfold nm_Sta at h
  obtain ⟨q, hq, he⟩ := Option.map_eq_some_iff.mp h
  have h1 := nm_SL_ok q (List.mem_of_find?_eq_some hq)
  have h2 := List.find?_some hq
  simp only [Bool.and_eq_true, beq_iff_eq] at h2
  obtain ⟨x, b, e⟩ := q
  obtain ⟨rfl, rfl⟩ := h2
  refine ⟨_, List.mem_cons_self, he, ?_⟩
  cases e with
  | true => exact Or.inl h1
  | false => exact Or.inr h1
def nm_Con_l : List (Nat × Nat × Int32) := [(11, 206, 999999)]
def nm_Con (cn idx : Nat) : Option Int32 := (nm_Con_l.find? (fun q => q.1 == cn && q.2.1 == idx)).map (fun q => q.2.2)
theorem nm_Con_0 : Jvm.Cond.constant (nm_Own 11) 206 (999999) ∈ nm_Ts := nm_t5 100 rfl rfl
theorem nm_Con_lok : ∀ q ∈ nm_Con_l, Jvm.Cond.constant (nm_Own q.1) q.2.1 q.2.2 ∈ nm_Ts := List.forall_mem_cons.mpr ⟨nm_Con_0, fun _ h => absurd h List.not_mem_nil⟩
theorem nm_Con_ok {cn idx : Nat} {v : Int32} (h : nm_Con cn idx = some v) : Jvm.Cond.constant (nm_Own cn) idx v ∈ nm_Ts := by
  unfold nm_Con at h
  obtain ⟨q, hq, he⟩ := Option.map_eq_some_iff.mp h
  have h1 := nm_Con_lok q (List.mem_of_find?_eq_some hq)
  have h2 := List.find?_some hq
  simp only [Bool.and_eq_true, beq_iff_eq] at h2
  obtain ⟨x, b, e⟩ := q
  obtain ⟨rfl, rfl⟩ := h2
  cases he
  exact h1
def nm_ConL_l : List (Nat × Nat × Int64) := [(12, 39, -1), (12, 43, 10), (12, 41, 5), (11, 69, 255), (11, 172, 5), (11, 161, 10), (13, 58, 4294967295)]
def nm_ConL (cn idx : Nat) : Option Int64 := (nm_ConL_l.find? (fun q => q.1 == cn && q.2.1 == idx)).map (fun q => q.2.2)
theorem nm_ConL_0 : Jvm.Cond.constantLong (nm_Own 12) 39 (-1) ∈ nm_Ts := nm_t3 166 rfl rfl
theorem nm_ConL_1 : Jvm.Cond.constantLong (nm_Own 12) 43 (10) ∈ nm_Ts := nm_t3 167 rfl rfl
theorem nm_ConL_2 : Jvm.Cond.constantLong (nm_Own 12) 41 (5) ∈ nm_Ts := nm_t3 170 rfl rfl
theorem nm_ConL_3 : Jvm.Cond.constantLong (nm_Own 11) 69 (255) ∈ nm_Ts := nm_t4 153 rfl rfl
theorem nm_ConL_4 : Jvm.Cond.constantLong (nm_Own 11) 172 (5) ∈ nm_Ts := nm_t5 55 rfl rfl
theorem nm_ConL_5 : Jvm.Cond.constantLong (nm_Own 11) 161 (10) ∈ nm_Ts := nm_t5 56 rfl rfl
theorem nm_ConL_6 : Jvm.Cond.constantLong (nm_Own 13) 58 (4294967295) ∈ nm_Ts := nm_t5 145 rfl rfl
theorem nm_ConL_lok : ∀ q ∈ nm_ConL_l, Jvm.Cond.constantLong (nm_Own q.1) q.2.1 q.2.2 ∈ nm_Ts := List.forall_mem_cons.mpr ⟨nm_ConL_0, List.forall_mem_cons.mpr ⟨nm_ConL_1, List.forall_mem_cons.mpr ⟨nm_ConL_2, List.forall_mem_cons.mpr ⟨nm_ConL_3, List.forall_mem_cons.mpr ⟨nm_ConL_4, List.forall_mem_cons.mpr ⟨nm_ConL_5, List.forall_mem_cons.mpr ⟨nm_ConL_6, fun _ h => absurd h List.not_mem_nil⟩⟩⟩⟩⟩⟩⟩
theorem nm_ConL_ok {cn idx : Nat} {v : Int64} (h : nm_ConL cn idx = some v) : Jvm.Cond.constantLong (nm_Own cn) idx v ∈ nm_Ts := by
  unfold nm_ConL at h
  obtain ⟨q, hq, he⟩ := Option.map_eq_some_iff.mp h
  have h1 := nm_ConL_lok q (List.mem_of_find?_eq_some hq)
  have h2 := List.find?_some hq
  simp only [Bool.and_eq_true, beq_iff_eq] at h2
  obtain ⟨x, b, e⟩ := q
  obtain ⟨rfl, rfl⟩ := h2
  cases he
  exact h1
