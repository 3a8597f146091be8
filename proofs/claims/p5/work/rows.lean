section
-- ===== PART A: goes FIRST, ahead of the names: the tables' words, and 'selects' of the private methods out of them =====
/-- a private method of a class that the tables say can be made, by its rows of tables_1 -/
def lw_okq (q : MethodName × Nat) : Prop := (q.1.cls ≠ "java/lang/invoke/MethodHandle" ∧ q.1.cls ≠ "java/lang/invoke/VarHandle") ∧ Cond.instantiable q.1.cls q.2 ∈ tables_1 ∧ Cond.privateMethod q.1 ∈ tables_1 ∧ Cond.instanceMethod q.1 ∈ tables_1
theorem lw_p0 : lw_okq (⟨"CardOffice", "cardsInAll", "()I"⟩, 8) := ⟨⟨by decide +kernel, by decide +kernel⟩, List.mem_of_getElem? (i := 24) (by decide +kernel), List.mem_of_getElem? (i := 238) (by decide +kernel), List.mem_of_getElem? (i := 239) (by decide +kernel)⟩
theorem lw_p1 : lw_okq (⟨"CardOffice", "readColumns", "(JI)Z"⟩, 8) := ⟨⟨by decide +kernel, by decide +kernel⟩, List.mem_of_getElem? (i := 24) (by decide +kernel), List.mem_of_getElem? (i := 242) (by decide +kernel), List.mem_of_getElem? (i := 243) (by decide +kernel)⟩
theorem lw_p2 : lw_okq (⟨"CardOffice$Board", "hasWire", "(II)Z"⟩, 4) := ⟨⟨by decide +kernel, by decide +kernel⟩, List.mem_of_getElem? (i := 181) (by decide +kernel), List.mem_of_getElem? (i := 289) (by decide +kernel), List.mem_of_getElem? (i := 290) (by decide +kernel)⟩
theorem lw_p3 : lw_okq (⟨"java/lang/Throwable", "fillInStackTrace", "(I)Ljava/lang/Throwable;"⟩, 6) := ⟨⟨by decide +kernel, by decide +kernel⟩, List.mem_of_getElem? (i := 381) (by decide +kernel), List.mem_of_getElem? (i := 379) (by decide +kernel), List.mem_of_getElem? (i := 380) (by decide +kernel)⟩
theorem lw_p4 : lw_okq (⟨"CardOffice$Sorter", "fillPockets", "(LCardOffice$Deck;IZ)V"⟩, 3) := ⟨⟨by decide +kernel, by decide +kernel⟩, List.mem_of_getElem? (i := 52) (by decide +kernel), List.mem_of_getElem? (i := 415) (by decide +kernel), List.mem_of_getElem? (i := 416) (by decide +kernel)⟩
theorem lw_p5 : lw_okq (⟨"CardOffice$Sorter", "stackPockets", "()I"⟩, 3) := ⟨⟨by decide +kernel, by decide +kernel⟩, List.mem_of_getElem? (i := 52) (by decide +kernel), List.mem_of_getElem? (i := 436) (by decide +kernel), List.mem_of_getElem? (i := 437) (by decide +kernel)⟩
theorem lw_p6 : lw_okq (⟨"CardOffice$Board", "isFromExit", "(I)Z"⟩, 4) := ⟨⟨by decide +kernel, by decide +kernel⟩, List.mem_of_getElem? (i := 181) (by decide +kernel), List.mem_of_getElem? (i := 551) (by decide +kernel), List.mem_of_getElem? (i := 552) (by decide +kernel)⟩
theorem lw_p7 : lw_okq (⟨"CardOffice$Board", "signFrom", "(ILCardOffice$Card;)I"⟩, 4) := ⟨⟨by decide +kernel, by decide +kernel⟩, List.mem_of_getElem? (i := 181) (by decide +kernel), List.mem_of_getElem? (i := 559) (by decide +kernel), List.mem_of_getElem? (i := 560) (by decide +kernel)⟩
theorem lw_p8 : lw_okq (⟨"CardOffice$Reproducer", "newCard", "()LCardOffice$Card;"⟩, 1) := ⟨⟨by decide +kernel, by decide +kernel⟩, List.mem_of_getElem? (i := 109) (by decide +kernel), List.mem_of_getElem? (i := 571) (by decide +kernel), List.mem_of_getElem? (i := 572) (by decide +kernel)⟩
theorem lw_p9 : lw_okq (⟨"CardOffice$Reproducer", "punchInto", "(LCardOffice$Card;)V"⟩, 1) := ⟨⟨by decide +kernel, by decide +kernel⟩, List.mem_of_getElem? (i := 109) (by decide +kernel), List.mem_of_getElem? (i := 607) (by decide +kernel), List.mem_of_getElem? (i := 608) (by decide +kernel)⟩
theorem lw_p10 : lw_okq (⟨"CardOffice$Tabulator", "faultOfCard", "(LCardOffice$Board;LCardOffice$Card;IZ)I"⟩, 5) := ⟨⟨by decide +kernel, by decide +kernel⟩, List.mem_of_getElem? (i := 138) (by decide +kernel), List.mem_of_getElem? (i := 690) (by decide +kernel), List.mem_of_getElem? (i := 691) (by decide +kernel)⟩
theorem lw_p11 : lw_okq (⟨"CardOffice$Tabulator", "totalsClash", "(LCardOffice$Board;I)Z"⟩, 5) := ⟨⟨by decide +kernel, by decide +kernel⟩, List.mem_of_getElem? (i := 138) (by decide +kernel), List.mem_of_getElem? (i := 695) (by decide +kernel), List.mem_of_getElem? (i := 696) (by decide +kernel)⟩
theorem lw_p12 : lw_okq (⟨"CardOffice$Tabulator", "isAnyOverrun", "(LCardOffice$Board;I)Z"⟩, 5) := ⟨⟨by decide +kernel, by decide +kernel⟩, List.mem_of_getElem? (i := 138) (by decide +kernel), List.mem_of_getElem? (i := 707) (by decide +kernel), List.mem_of_getElem? (i := 708) (by decide +kernel)⟩
theorem lw_p13 : lw_okq (⟨"CardOffice$Tabulator", "entered", "(I)I"⟩, 5) := ⟨⟨by decide +kernel, by decide +kernel⟩, List.mem_of_getElem? (i := 138) (by decide +kernel), List.mem_of_getElem? (i := 711) (by decide +kernel), List.mem_of_getElem? (i := 712) (by decide +kernel)⟩
theorem lw_p14 : lw_okq (⟨"CardOffice$Tabulator", "doTotals", "(LCardOffice$Board;I)V"⟩, 5) := ⟨⟨by decide +kernel, by decide +kernel⟩, List.mem_of_getElem? (i := 138) (by decide +kernel), List.mem_of_getElem? (i := 731) (by decide +kernel), List.mem_of_getElem? (i := 732) (by decide +kernel)⟩
theorem lw_p15 : lw_okq (⟨"CardOffice$Tabulator", "clearCounters", "(LCardOffice$Board;I)V"⟩, 5) := ⟨⟨by decide +kernel, by decide +kernel⟩, List.mem_of_getElem? (i := 138) (by decide +kernel), List.mem_of_getElem? (i := 740) (by decide +kernel), List.mem_of_getElem? (i := 741) (by decide +kernel)⟩
def lw_privs_1 : List (MethodName × Nat) := [(⟨"CardOffice", "cardsInAll", "()I"⟩, 8), (⟨"CardOffice", "readColumns", "(JI)Z"⟩, 8), (⟨"CardOffice$Board", "hasWire", "(II)Z"⟩, 4), (⟨"java/lang/Throwable", "fillInStackTrace", "(I)Ljava/lang/Throwable;"⟩, 6), (⟨"CardOffice$Sorter", "fillPockets", "(LCardOffice$Deck;IZ)V"⟩, 3), (⟨"CardOffice$Sorter", "stackPockets", "()I"⟩, 3), (⟨"CardOffice$Board", "isFromExit", "(I)Z"⟩, 4), (⟨"CardOffice$Board", "signFrom", "(ILCardOffice$Card;)I"⟩, 4), (⟨"CardOffice$Reproducer", "newCard", "()LCardOffice$Card;"⟩, 1), (⟨"CardOffice$Reproducer", "punchInto", "(LCardOffice$Card;)V"⟩, 1), (⟨"CardOffice$Tabulator", "faultOfCard", "(LCardOffice$Board;LCardOffice$Card;IZ)I"⟩, 5), (⟨"CardOffice$Tabulator", "totalsClash", "(LCardOffice$Board;I)Z"⟩, 5), (⟨"CardOffice$Tabulator", "isAnyOverrun", "(LCardOffice$Board;I)Z"⟩, 5), (⟨"CardOffice$Tabulator", "entered", "(I)I"⟩, 5), (⟨"CardOffice$Tabulator", "doTotals", "(LCardOffice$Board;I)V"⟩, 5), (⟨"CardOffice$Tabulator", "clearCounters", "(LCardOffice$Board;I)V"⟩, 5)]
theorem lw_r1 : ∀ q ∈ lw_privs_1, lw_okq q := List.forall_mem_cons.mpr ⟨lw_p0, List.forall_mem_cons.mpr ⟨lw_p1, List.forall_mem_cons.mpr ⟨lw_p2, List.forall_mem_cons.mpr ⟨lw_p3, List.forall_mem_cons.mpr ⟨lw_p4, List.forall_mem_cons.mpr ⟨lw_p5, List.forall_mem_cons.mpr ⟨lw_p6, List.forall_mem_cons.mpr ⟨lw_p7, List.forall_mem_cons.mpr ⟨lw_p8, List.forall_mem_cons.mpr ⟨lw_p9, List.forall_mem_cons.mpr ⟨lw_p10, List.forall_mem_cons.mpr ⟨lw_p11, List.forall_mem_cons.mpr ⟨lw_p12, List.forall_mem_cons.mpr ⟨lw_p13, List.forall_mem_cons.mpr ⟨lw_p14, List.forall_mem_cons.mpr ⟨lw_p15, fun _ h => absurd h List.not_mem_nil⟩⟩⟩⟩⟩⟩⟩⟩⟩⟩⟩⟩⟩⟩⟩⟩
theorem lw_p16 : lw_okq (⟨"CardOffice$Tabulator", "doCard", "(Z)V"⟩, 5) := ⟨⟨by decide +kernel, by decide +kernel⟩, List.mem_of_getElem? (i := 138) (by decide +kernel), List.mem_of_getElem? (i := 744) (by decide +kernel), List.mem_of_getElem? (i := 745) (by decide +kernel)⟩
theorem lw_p17 : lw_okq (⟨"CardOffice$Tabulator", "finish", "(LCardOffice$Board;ILCardOffice$FaultLight;)I"⟩, 5) := ⟨⟨by decide +kernel, by decide +kernel⟩, List.mem_of_getElem? (i := 138) (by decide +kernel), List.mem_of_getElem? (i := 748) (by decide +kernel), List.mem_of_getElem? (i := 749) (by decide +kernel)⟩
theorem lw_p18 : lw_okq (⟨"CardOffice$Tabulator", "faultOfLastTotals", "(LCardOffice$Board;)I"⟩, 5) := ⟨⟨by decide +kernel, by decide +kernel⟩, List.mem_of_getElem? (i := 138) (by decide +kernel), List.mem_of_getElem? (i := 752) (by decide +kernel), List.mem_of_getElem? (i := 753) (by decide +kernel)⟩
theorem lw_p19 : lw_okq (⟨"CardOfficeModel", "newCard", "()I"⟩, 19) := ⟨⟨by decide +kernel, by decide +kernel⟩, List.mem_of_getElem? (i := 798) (by decide +kernel), List.mem_of_getElem? (i := 874) (by decide +kernel), List.mem_of_getElem? (i := 875) (by decide +kernel)⟩
theorem lw_p20 : lw_okq (⟨"CardOfficeModel", "add", "(II)V"⟩, 19) := ⟨⟨by decide +kernel, by decide +kernel⟩, List.mem_of_getElem? (i := 798) (by decide +kernel), List.mem_of_getElem? (i := 878) (by decide +kernel), List.mem_of_getElem? (i := 879) (by decide +kernel)⟩
theorem lw_p21 : lw_okq (⟨"CardOfficeModel", "sift", "(IIZ)I"⟩, 19) := ⟨⟨by decide +kernel, by decide +kernel⟩, List.mem_of_getElem? (i := 798) (by decide +kernel), List.mem_of_getElem? (i := 910) (by decide +kernel), List.mem_of_getElem? (i := 911) (by decide +kernel)⟩
theorem lw_p22 : lw_okq (⟨"CardOfficeModel", "cardAt", "(II)I"⟩, 19) := ⟨⟨by decide +kernel, by decide +kernel⟩, List.mem_of_getElem? (i := 798) (by decide +kernel), List.mem_of_getElem? (i := 914) (by decide +kernel), List.mem_of_getElem? (i := 915) (by decide +kernel)⟩
theorem lw_p23 : lw_okq (⟨"CardOfficeModel", "keyOf", "(IIZ)I"⟩, 19) := ⟨⟨by decide +kernel, by decide +kernel⟩, List.mem_of_getElem? (i := 798) (by decide +kernel), List.mem_of_getElem? (i := 918) (by decide +kernel), List.mem_of_getElem? (i := 919) (by decide +kernel)⟩
theorem lw_p24 : lw_okq (⟨"CardOfficeModel", "at", "(II)I"⟩, 19) := ⟨⟨by decide +kernel, by decide +kernel⟩, List.mem_of_getElem? (i := 798) (by decide +kernel), List.mem_of_getElem? (i := 922) (by decide +kernel), List.mem_of_getElem? (i := 923) (by decide +kernel)⟩
theorem lw_p25 : lw_okq (⟨"CardOfficeModel", "isSorted", "(III)Z"⟩, 19) := ⟨⟨by decide +kernel, by decide +kernel⟩, List.mem_of_getElem? (i := 798) (by decide +kernel), List.mem_of_getElem? (i := 939) (by decide +kernel), List.mem_of_getElem? (i := 940) (by decide +kernel)⟩
theorem lw_p26 : lw_okq (⟨"CardOfficeModel", "compare", "(IIII)I"⟩, 19) := ⟨⟨by decide +kernel, by decide +kernel⟩, List.mem_of_getElem? (i := 798) (by decide +kernel), List.mem_of_getElem? (i := 943) (by decide +kernel), List.mem_of_getElem? (i := 944) (by decide +kernel)⟩
theorem lw_p27 : lw_okq (⟨"CardOfficeModel", "putIn", "([SIIII)V"⟩, 19) := ⟨⟨by decide +kernel, by decide +kernel⟩, List.mem_of_getElem? (i := 798) (by decide +kernel), List.mem_of_getElem? (i := 950) (by decide +kernel), List.mem_of_getElem? (i := 951) (by decide +kernel)⟩
theorem lw_p28 : lw_okq (⟨"CardOfficeModel", "take", "(IIIII)I"⟩, 19) := ⟨⟨by decide +kernel, by decide +kernel⟩, List.mem_of_getElem? (i := 798) (by decide +kernel), List.mem_of_getElem? (i := 962) (by decide +kernel), List.mem_of_getElem? (i := 963) (by decide +kernel)⟩
theorem lw_p29 : lw_okq (⟨"CardOfficeModel", "hasKey", "(IIII)Z"⟩, 19) := ⟨⟨by decide +kernel, by decide +kernel⟩, List.mem_of_getElem? (i := 798) (by decide +kernel), List.mem_of_getElem? (i := 966) (by decide +kernel), List.mem_of_getElem? (i := 967) (by decide +kernel)⟩
theorem lw_p30 : lw_okq (⟨"CardOfficeModel", "leave", "(IIII)V"⟩, 19) := ⟨⟨by decide +kernel, by decide +kernel⟩, List.mem_of_getElem? (i := 798) (by decide +kernel), List.mem_of_getElem? (i := 970) (by decide +kernel), List.mem_of_getElem? (i := 971) (by decide +kernel)⟩
theorem lw_p31 : lw_okq (⟨"CardOfficeModel", "arrives", "(III)I"⟩, 19) := ⟨⟨by decide +kernel, by decide +kernel⟩, List.mem_of_getElem? (i := 798) (by decide +kernel), List.mem_of_getElem? (i := 978) (by decide +kernel), List.mem_of_getElem? (i := 979) (by decide +kernel)⟩
def lw_privs_2 : List (MethodName × Nat) := [(⟨"CardOffice$Tabulator", "doCard", "(Z)V"⟩, 5), (⟨"CardOffice$Tabulator", "finish", "(LCardOffice$Board;ILCardOffice$FaultLight;)I"⟩, 5), (⟨"CardOffice$Tabulator", "faultOfLastTotals", "(LCardOffice$Board;)I"⟩, 5), (⟨"CardOfficeModel", "newCard", "()I"⟩, 19), (⟨"CardOfficeModel", "add", "(II)V"⟩, 19), (⟨"CardOfficeModel", "sift", "(IIZ)I"⟩, 19), (⟨"CardOfficeModel", "cardAt", "(II)I"⟩, 19), (⟨"CardOfficeModel", "keyOf", "(IIZ)I"⟩, 19), (⟨"CardOfficeModel", "at", "(II)I"⟩, 19), (⟨"CardOfficeModel", "isSorted", "(III)Z"⟩, 19), (⟨"CardOfficeModel", "compare", "(IIII)I"⟩, 19), (⟨"CardOfficeModel", "putIn", "([SIIII)V"⟩, 19), (⟨"CardOfficeModel", "take", "(IIIII)I"⟩, 19), (⟨"CardOfficeModel", "hasKey", "(IIII)Z"⟩, 19), (⟨"CardOfficeModel", "leave", "(IIII)V"⟩, 19), (⟨"CardOfficeModel", "arrives", "(III)I"⟩, 19)]
theorem lw_r2 : ∀ q ∈ lw_privs_2, lw_okq q := List.forall_mem_cons.mpr ⟨lw_p16, List.forall_mem_cons.mpr ⟨lw_p17, List.forall_mem_cons.mpr ⟨lw_p18, List.forall_mem_cons.mpr ⟨lw_p19, List.forall_mem_cons.mpr ⟨lw_p20, List.forall_mem_cons.mpr ⟨lw_p21, List.forall_mem_cons.mpr ⟨lw_p22, List.forall_mem_cons.mpr ⟨lw_p23, List.forall_mem_cons.mpr ⟨lw_p24, List.forall_mem_cons.mpr ⟨lw_p25, List.forall_mem_cons.mpr ⟨lw_p26, List.forall_mem_cons.mpr ⟨lw_p27, List.forall_mem_cons.mpr ⟨lw_p28, List.forall_mem_cons.mpr ⟨lw_p29, List.forall_mem_cons.mpr ⟨lw_p30, List.forall_mem_cons.mpr ⟨lw_p31, fun _ h => absurd h List.not_mem_nil⟩⟩⟩⟩⟩⟩⟩⟩⟩⟩⟩⟩⟩⟩⟩⟩
theorem lw_p32 : lw_okq (⟨"CardOfficeModel", "brings", "(II)I"⟩, 19) := ⟨⟨by decide +kernel, by decide +kernel⟩, List.mem_of_getElem? (i := 798) (by decide +kernel), List.mem_of_getElem? (i := 982) (by decide +kernel), List.mem_of_getElem? (i := 983) (by decide +kernel)⟩
theorem lw_p33 : lw_okq (⟨"CardOfficeModel", "fails", "(II)I"⟩, 19) := ⟨⟨by decide +kernel, by decide +kernel⟩, List.mem_of_getElem? (i := 798) (by decide +kernel), List.mem_of_getElem? (i := 986) (by decide +kernel), List.mem_of_getElem? (i := 987) (by decide +kernel)⟩
theorem lw_p34 : lw_okq (⟨"CardOfficeModel", "faultOfGang", "(III)I"⟩, 19) := ⟨⟨by decide +kernel, by decide +kernel⟩, List.mem_of_getElem? (i := 798) (by decide +kernel), List.mem_of_getElem? (i := 994) (by decide +kernel), List.mem_of_getElem? (i := 995) (by decide +kernel)⟩
theorem lw_p35 : lw_okq (⟨"CardOfficeModel", "numberOf", "(II)I"⟩, 19) := ⟨⟨by decide +kernel, by decide +kernel⟩, List.mem_of_getElem? (i := 798) (by decide +kernel), List.mem_of_getElem? (i := 1008) (by decide +kernel), List.mem_of_getElem? (i := 1009) (by decide +kernel)⟩
theorem lw_p36 : lw_okq (⟨"CardOfficeModel", "punches", "(IIJZ)Z"⟩, 19) := ⟨⟨by decide +kernel, by decide +kernel⟩, List.mem_of_getElem? (i := 798) (by decide +kernel), List.mem_of_getElem? (i := 1017) (by decide +kernel), List.mem_of_getElem? (i := 1018) (by decide +kernel)⟩
theorem lw_p37 : lw_okq (⟨"CardOfficeModel", "breaks", "(IIII)Z"⟩, 19) := ⟨⟨by decide +kernel, by decide +kernel⟩, List.mem_of_getElem? (i := 798) (by decide +kernel), List.mem_of_getElem? (i := 1025) (by decide +kernel), List.mem_of_getElem? (i := 1026) (by decide +kernel)⟩
theorem lw_p38 : lw_okq (⟨"CardOfficeModel", "faultOfCard", "(III)I"⟩, 19) := ⟨⟨by decide +kernel, by decide +kernel⟩, List.mem_of_getElem? (i := 798) (by decide +kernel), List.mem_of_getElem? (i := 1029) (by decide +kernel), List.mem_of_getElem? (i := 1030) (by decide +kernel)⟩
theorem lw_p39 : lw_okq (⟨"CardOfficeModel", "isListed", "(I)Z"⟩, 19) := ⟨⟨by decide +kernel, by decide +kernel⟩, List.mem_of_getElem? (i := 798) (by decide +kernel), List.mem_of_getElem? (i := 1033) (by decide +kernel), List.mem_of_getElem? (i := 1034) (by decide +kernel)⟩
theorem lw_p40 : lw_okq (⟨"CardOfficeModel", "counts", "(III)Z"⟩, 19) := ⟨⟨by decide +kernel, by decide +kernel⟩, List.mem_of_getElem? (i := 798) (by decide +kernel), List.mem_of_getElem? (i := 1037) (by decide +kernel), List.mem_of_getElem? (i := 1038) (by decide +kernel)⟩
theorem lw_p41 : lw_okq (⟨"CardOfficeModel", "clashes", "(II)Z"⟩, 19) := ⟨⟨by decide +kernel, by decide +kernel⟩, List.mem_of_getElem? (i := 798) (by decide +kernel), List.mem_of_getElem? (i := 1041) (by decide +kernel), List.mem_of_getElem? (i := 1042) (by decide +kernel)⟩
theorem lw_p42 : lw_okq (⟨"CardOfficeModel", "totals", "(III)I"⟩, 19) := ⟨⟨by decide +kernel, by decide +kernel⟩, List.mem_of_getElem? (i := 798) (by decide +kernel), List.mem_of_getElem? (i := 1045) (by decide +kernel), List.mem_of_getElem? (i := 1046) (by decide +kernel)⟩
theorem lw_p43 : lw_okq (⟨"CardOfficeModel", "wheel", "(II)I"⟩, 19) := ⟨⟨by decide +kernel, by decide +kernel⟩, List.mem_of_getElem? (i := 798) (by decide +kernel), List.mem_of_getElem? (i := 1049) (by decide +kernel), List.mem_of_getElem? (i := 1050) (by decide +kernel)⟩
theorem lw_p44 : lw_okq (⟨"CardOfficeModel", "hasLevel", "(II)Z"⟩, 19) := ⟨⟨by decide +kernel, by decide +kernel⟩, List.mem_of_getElem? (i := 798) (by decide +kernel), List.mem_of_getElem? (i := 1053) (by decide +kernel), List.mem_of_getElem? (i := 1054) (by decide +kernel)⟩
theorem lw_p45 : lw_okq (⟨"CardOfficeModel", "tabulateCard", "(III)V"⟩, 19) := ⟨⟨by decide +kernel, by decide +kernel⟩, List.mem_of_getElem? (i := 798) (by decide +kernel), List.mem_of_getElem? (i := 1058) (by decide +kernel), List.mem_of_getElem? (i := 1059) (by decide +kernel)⟩
theorem lw_p46 : lw_okq (⟨"CardOfficeModel", "total", "(II)V"⟩, 19) := ⟨⟨by decide +kernel, by decide +kernel⟩, List.mem_of_getElem? (i := 798) (by decide +kernel), List.mem_of_getElem? (i := 1062) (by decide +kernel), List.mem_of_getElem? (i := 1063) (by decide +kernel)⟩
theorem lw_p47 : lw_okq (⟨"CardOfficeModel", "print", "(II)V"⟩, 19) := ⟨⟨by decide +kernel, by decide +kernel⟩, List.mem_of_getElem? (i := 798) (by decide +kernel), List.mem_of_getElem? (i := 1066) (by decide +kernel), List.mem_of_getElem? (i := 1067) (by decide +kernel)⟩
def lw_privs_3 : List (MethodName × Nat) := [(⟨"CardOfficeModel", "brings", "(II)I"⟩, 19), (⟨"CardOfficeModel", "fails", "(II)I"⟩, 19), (⟨"CardOfficeModel", "faultOfGang", "(III)I"⟩, 19), (⟨"CardOfficeModel", "numberOf", "(II)I"⟩, 19), (⟨"CardOfficeModel", "punches", "(IIJZ)Z"⟩, 19), (⟨"CardOfficeModel", "breaks", "(IIII)Z"⟩, 19), (⟨"CardOfficeModel", "faultOfCard", "(III)I"⟩, 19), (⟨"CardOfficeModel", "isListed", "(I)Z"⟩, 19), (⟨"CardOfficeModel", "counts", "(III)Z"⟩, 19), (⟨"CardOfficeModel", "clashes", "(II)Z"⟩, 19), (⟨"CardOfficeModel", "totals", "(III)I"⟩, 19), (⟨"CardOfficeModel", "wheel", "(II)I"⟩, 19), (⟨"CardOfficeModel", "hasLevel", "(II)Z"⟩, 19), (⟨"CardOfficeModel", "tabulateCard", "(III)V"⟩, 19), (⟨"CardOfficeModel", "total", "(II)V"⟩, 19), (⟨"CardOfficeModel", "print", "(II)V"⟩, 19)]
theorem lw_r3 : ∀ q ∈ lw_privs_3, lw_okq q := List.forall_mem_cons.mpr ⟨lw_p32, List.forall_mem_cons.mpr ⟨lw_p33, List.forall_mem_cons.mpr ⟨lw_p34, List.forall_mem_cons.mpr ⟨lw_p35, List.forall_mem_cons.mpr ⟨lw_p36, List.forall_mem_cons.mpr ⟨lw_p37, List.forall_mem_cons.mpr ⟨lw_p38, List.forall_mem_cons.mpr ⟨lw_p39, List.forall_mem_cons.mpr ⟨lw_p40, List.forall_mem_cons.mpr ⟨lw_p41, List.forall_mem_cons.mpr ⟨lw_p42, List.forall_mem_cons.mpr ⟨lw_p43, List.forall_mem_cons.mpr ⟨lw_p44, List.forall_mem_cons.mpr ⟨lw_p45, List.forall_mem_cons.mpr ⟨lw_p46, List.forall_mem_cons.mpr ⟨lw_p47, fun _ h => absurd h List.not_mem_nil⟩⟩⟩⟩⟩⟩⟩⟩⟩⟩⟩⟩⟩⟩⟩⟩
theorem lw_p48 : lw_okq (⟨"CardOfficeModel", "faultOfEnd", "(I)I"⟩, 19) := ⟨⟨by decide +kernel, by decide +kernel⟩, List.mem_of_getElem? (i := 798) (by decide +kernel), List.mem_of_getElem? (i := 1070) (by decide +kernel), List.mem_of_getElem? (i := 1071) (by decide +kernel)⟩
def lw_privs_4 : List (MethodName × Nat) := [(⟨"CardOfficeModel", "faultOfEnd", "(I)I"⟩, 19)]
theorem lw_r4 : ∀ q ∈ lw_privs_4, lw_okq q := List.forall_mem_cons.mpr ⟨lw_p48, fun _ h => absurd h List.not_mem_nil⟩
def lw_privs : List (MethodName × Nat) := lw_privs_1 ++ (lw_privs_2 ++ (lw_privs_3 ++ (lw_privs_4)))
def lw_tbl : List Cond := k2_sels lw_privs ++ tables_1
theorem lw_privs_ok : ∀ q ∈ lw_privs, lw_okq q := by
  show ∀ q ∈ lw_privs_1 ++ (lw_privs_2 ++ (lw_privs_3 ++ (lw_privs_4))), lw_okq q
  exact List.forall_mem_append.mpr ⟨lw_r1, List.forall_mem_append.mpr ⟨lw_r2, List.forall_mem_append.mpr ⟨lw_r3, lw_r4⟩⟩⟩
-- ===== names =====
def nm_Ts : List Cond := lw_tbl.filter goodWord
def nm_isNest : Cond → Bool
  | .fieldLinkNest _ _ _ _ _ _ => true
  | .methodLinkNest _ _ _ _ => true
  | _ => false
def nm_Ns : List Cond := tables_1.filter nm_isNest
theorem nm_good : ∀ w ∈ nm_Ts, goodWord w = true := fun _ h => (List.mem_filter.mp h).2
theorem nm_s {w : Cond} (i : Nat) (h : (k2_sels lw_privs)[i]? = some w) (hg : goodWord w = true) : w ∈ nm_Ts := List.mem_filter.mpr ⟨List.mem_append_left _ (List.mem_of_getElem? h), hg⟩
theorem nm_t1 {w : Cond} (i : Nat) (h : tables_1_1[i]? = some w) (hg : goodWord w = true) : w ∈ nm_Ts := List.mem_filter.mpr ⟨List.mem_append_right _ (show w ∈ tables_1 from List.mem_append_left _ (List.mem_of_getElem? h)), hg⟩
theorem nm_n1 {w : Cond} (i : Nat) (h : tables_1_1[i]? = some w) (hg : nm_isNest w = true) : w ∈ nm_Ns := List.mem_filter.mpr ⟨(show w ∈ tables_1 from List.mem_append_left _ (List.mem_of_getElem? h)), hg⟩
theorem nm_t2 {w : Cond} (i : Nat) (h : tables_1_2[i]? = some w) (hg : goodWord w = true) : w ∈ nm_Ts := List.mem_filter.mpr ⟨List.mem_append_right _ (show w ∈ tables_1 from List.mem_append_right _ (List.mem_append_left _ (List.mem_of_getElem? h))), hg⟩
theorem nm_n2 {w : Cond} (i : Nat) (h : tables_1_2[i]? = some w) (hg : nm_isNest w = true) : w ∈ nm_Ns := List.mem_filter.mpr ⟨(show w ∈ tables_1 from List.mem_append_right _ (List.mem_append_left _ (List.mem_of_getElem? h))), hg⟩
theorem nm_t3 {w : Cond} (i : Nat) (h : tables_1_3[i]? = some w) (hg : goodWord w = true) : w ∈ nm_Ts := List.mem_filter.mpr ⟨List.mem_append_right _ (show w ∈ tables_1 from List.mem_append_right _ (List.mem_append_right _ (List.mem_append_left _ (List.mem_of_getElem? h)))), hg⟩
theorem nm_n3 {w : Cond} (i : Nat) (h : tables_1_3[i]? = some w) (hg : nm_isNest w = true) : w ∈ nm_Ns := List.mem_filter.mpr ⟨(show w ∈ tables_1 from List.mem_append_right _ (List.mem_append_right _ (List.mem_append_left _ (List.mem_of_getElem? h)))), hg⟩
theorem nm_t4 {w : Cond} (i : Nat) (h : tables_1_4[i]? = some w) (hg : goodWord w = true) : w ∈ nm_Ts := List.mem_filter.mpr ⟨List.mem_append_right _ (show w ∈ tables_1 from List.mem_append_right _ (List.mem_append_right _ (List.mem_append_right _ (List.mem_append_left _ (List.mem_of_getElem? h))))), hg⟩
theorem nm_n4 {w : Cond} (i : Nat) (h : tables_1_4[i]? = some w) (hg : nm_isNest w = true) : w ∈ nm_Ns := List.mem_filter.mpr ⟨(show w ∈ tables_1 from List.mem_append_right _ (List.mem_append_right _ (List.mem_append_right _ (List.mem_append_left _ (List.mem_of_getElem? h))))), hg⟩
theorem nm_t5 {w : Cond} (i : Nat) (h : tables_1_5[i]? = some w) (hg : goodWord w = true) : w ∈ nm_Ts := List.mem_filter.mpr ⟨List.mem_append_right _ (show w ∈ tables_1 from List.mem_append_right _ (List.mem_append_right _ (List.mem_append_right _ (List.mem_append_right _ (List.mem_of_getElem? h))))), hg⟩
theorem nm_n5 {w : Cond} (i : Nat) (h : tables_1_5[i]? = some w) (hg : nm_isNest w = true) : w ∈ nm_Ns := List.mem_filter.mpr ⟨(show w ∈ tables_1 from List.mem_append_right _ (List.mem_append_right _ (List.mem_append_right _ (List.mem_append_right _ (List.mem_of_getElem? h))))), hg⟩
theorem nm_Ns_on : ∀ w ∈ nm_Ns, w.onTables = true := fun w h => by
  have h2 := (List.mem_filter.mp h).2
  cases w <;> first | rfl | (cases h2)
theorem nm_Ns_warm {s U : State} (w : Cond) (h : w ∈ nm_Ns) (hW : s.WarmedH U.vm) (hZ : va_Nw w s) : va_Nw w U := by
  have h2 := (List.mem_filter.mp h).2
  cases w <;> first | exact va_Nw.warmF hW hZ | exact va_Nw.warmM hW hZ | (cases h2)
def nm_host : String := "CardOffice"
def nm_Ow : List String := ["CardOffice", "CardOffice$Board", "CardOffice$Card", "CardOffice$Collator", "CardOffice$Deck", "CardOffice$FaultLight", "CardOffice$Jacks", "CardOffice$Paper", "CardOffice$Reproducer", "CardOffice$Sorter", "CardOffice$Tabulator", "CardOfficeModel", "CardOffice$Multiplier", "CardOfficeLaw", "java/util/Arrays", "java/lang/Integer"]
def nm_Own (cn : Nat) : String := nm_Ow.getD cn ""
def nm_Ty : List FieldType := [.int, .byte, .short, .long, .object "CardOffice$Deck", .object "CardOffice$Board", .object "CardOffice$Card", .array .int]
theorem nm_ty0 : nm_Ty[0]? = some .int := rfl
theorem nm_ty1 : nm_Ty[1]? = some .byte := rfl
theorem nm_ty2 : nm_Ty[2]? = some .short := rfl
theorem nm_ty3 : nm_Ty[3]? = some .long := rfl
def nm_T0 : u_T := fun k => match k with
  | 0 => ("CardOffice", "decks", "[LCardOffice$Deck;", true)
  | 1 => ("CardOffice", "boards", "[LCardOffice$Board;", true)
  | 2 => ("CardOffice", "columnsRead", "[I", true)
  | 3 => ("CardOffice", "light", "LCardOffice$FaultLight;", true)
  | 4 => ("CardOffice", "sorter", "LCardOffice$Sorter;", true)
  | 5 => ("CardOffice", "collator", "LCardOffice$Collator;", true)
  | 6 => ("CardOffice", "reproducer", "LCardOffice$Reproducer;", true)
  | _ => ("CardOffice", "tabulator", "LCardOffice$Tabulator;", true)
def nm_Y0 : Nat → FieldType := fun k => match k with
  | 0 => .array (.object "CardOffice$Deck")
  | 1 => .array (.object "CardOffice$Board")
  | 2 => .array (.int)
  | 3 => .object "CardOffice$FaultLight"
  | 4 => .object "CardOffice$Sorter"
  | 5 => .object "CardOffice$Collator"
  | 6 => .object "CardOffice$Reproducer"
  | _ => .object "CardOffice$Tabulator"
def nm_T1 : u_T := fun k => match k with
  | 0 => ("CardOffice$Board", "from", "[I", true)
  | 1 => ("CardOffice$Board", "to", "[I", true)
  | 2 => ("CardOffice$Board", "levels", "[I", true)
  | _ => ("CardOffice$Board", "wires", "I", false)
def nm_Y1 : Nat → FieldType := fun k => match k with
  | 0 => .array (.int)
  | 1 => .array (.int)
  | 2 => .array (.int)
  | _ => .int
def nm_T2 : u_T := fun k => match k with
  | _ => ("CardOffice$Card", "signs", "[I", true)
def nm_Y2 : Nat → FieldType := fun k => match k with
  | _ => .array (.int)
def nm_T3 : u_T := fun k => match k with
  | 0 => ("CardOffice$Collator", "rest", "LCardOffice$Deck;", true)
  | 1 => ("CardOffice$Collator", "otherRest", "LCardOffice$Deck;", true)
  | _ => ("CardOffice$Collator", "brought", "I", false)
def nm_Y3 : Nat → FieldType := fun k => match k with
  | 0 => .object "CardOffice$Deck"
  | 1 => .object "CardOffice$Deck"
  | _ => .int
def nm_T4 : u_T := fun k => match k with
  | 0 => ("CardOffice$Deck", "cards", "[LCardOffice$Card;", true)
  | _ => ("CardOffice$Deck", "size", "I", false)
def nm_Y4 : Nat → FieldType := fun k => match k with
  | 0 => .array (.object "CardOffice$Card")
  | _ => .int
def nm_T5 : u_T := fun k => match k with
  | 0 => ("CardOffice$FaultLight", "kind", "I", false)
  | _ => ("CardOffice$FaultLight", "place", "I", false)
def nm_Y5 : Nat → FieldType := fun k => match k with
  | 0 => .int
  | _ => .int
def nm_T6 : u_T := fun k => match k with
  | 0 => ("CardOffice$Jacks", "firstJack", "I", true)
  | 1 => ("CardOffice$Jacks", "signs", "[I", true)
  | _ => ("CardOffice$Jacks", "clashed", "Z", false)
def nm_Y6 : Nat → FieldType := fun k => match k with
  | 0 => .int
  | 1 => .array (.int)
  | _ => .boolean
def nm_T7 : u_T := fun k => match k with
  | 0 => ("CardOffice$Paper", "signs", "[[I", true)
  | _ => ("CardOffice$Paper", "lines", "I", false)
def nm_Y7 : Nat → FieldType := fun k => match k with
  | 0 => .array (.array (.int))
  | _ => .int
def nm_T8 : u_T := fun k => match k with
  | _ => ("CardOffice$Reproducer", "columns", "LCardOffice$Jacks;", true)
def nm_Y8 : Nat → FieldType := fun k => match k with
  | _ => .object "CardOffice$Jacks"
def nm_T9 : u_T := fun k => match k with
  | 0 => ("CardOffice$Sorter", "places", "[I", true)
  | 1 => ("CardOffice$Sorter", "stacked", "[LCardOffice$Card;", true)
  | _ => ("CardOffice$Sorter", "passes", "I", false)
def nm_Y9 : Nat → FieldType := fun k => match k with
  | 0 => .array (.int)
  | 1 => .array (.object "CardOffice$Card")
  | _ => .int
def nm_T10 : u_T := fun k => match k with
  | 0 => ("CardOffice$Tabulator", "counters", "[I", true)
  | 1 => ("CardOffice$Tabulator", "paper", "LCardOffice$Paper;", true)
  | 2 => ("CardOffice$Tabulator", "totalLine", "LCardOffice$Jacks;", true)
  | 3 => ("CardOffice$Tabulator", "cardLine", "LCardOffice$Jacks;", true)
  | _ => ("CardOffice$Tabulator", "entries", "LCardOffice$Jacks;", true)
def nm_Y10 : Nat → FieldType := fun k => match k with
  | 0 => .array (.int)
  | 1 => .object "CardOffice$Paper"
  | 2 => .object "CardOffice$Jacks"
  | 3 => .object "CardOffice$Jacks"
  | _ => .object "CardOffice$Jacks"
def nm_T11 : u_T := fun k => match k with
  | 0 => ("CardOfficeModel", "thrown", "I", false)
  | 1 => ("CardOfficeModel", "cards", "I", false)
  | 2 => ("CardOfficeModel", "signs", "[B", true)
  | 3 => ("CardOfficeModel", "decks", "[S", true)
  | 4 => ("CardOfficeModel", "sizes", "[I", true)
  | 5 => ("CardOfficeModel", "spare", "[S", true)
  | 6 => ("CardOfficeModel", "rest", "[S", true)
  | 7 => ("CardOfficeModel", "wireFrom", "[B", true)
  | 8 => ("CardOfficeModel", "wireTo", "[B", true)
  | 9 => ("CardOfficeModel", "wires", "[I", true)
  | 10 => ("CardOfficeModel", "levels", "[I", true)
  | 11 => ("CardOfficeModel", "counters", "[I", true)
  | 12 => ("CardOfficeModel", "after", "[I", true)
  | 13 => ("CardOfficeModel", "paper", "[B", true)
  | 14 => ("CardOfficeModel", "lines", "I", false)
  | 15 => ("CardOfficeModel", "passes", "I", false)
  | 16 => ("CardOfficeModel", "brought", "I", false)
  | 17 => ("CardOfficeModel", "faulty", "I", false)
  | _ => ("CardOfficeModel", "faultyAt", "I", false)
def nm_Y11 : Nat → FieldType := fun k => match k with
  | 0 => .int
  | 1 => .int
  | 2 => .array (.byte)
  | 3 => .array (.short)
  | 4 => .array (.int)
  | 5 => .array (.short)
  | 6 => .array (.short)
  | 7 => .array (.byte)
  | 8 => .array (.byte)
  | 9 => .array (.int)
  | 10 => .array (.int)
  | 11 => .array (.int)
  | 12 => .array (.int)
  | 13 => .array (.byte)
  | 14 => .int
  | 15 => .int
  | 16 => .int
  | 17 => .int
  | _ => .int
def nm_Cl : List vw_C := [("CardOffice", nm_T0, 8), ("CardOffice$Board", nm_T1, 4), ("CardOffice$Card", nm_T2, 1), ("CardOffice$Collator", nm_T3, 3), ("CardOffice$Deck", nm_T4, 2), ("CardOffice$FaultLight", nm_T5, 2), ("CardOffice$Jacks", nm_T6, 3), ("CardOffice$Paper", nm_T7, 2), ("CardOffice$Reproducer", nm_T8, 1), ("CardOffice$Sorter", nm_T9, 3), ("CardOffice$Tabulator", nm_T10, 5), ("CardOfficeModel", nm_T11, 19)]
theorem nm_Cl_1000 {q : vw_C} : nm_Cl[1000]? ≠ some q := fun h => by cases h
def nm_FTy (ci k : Nat) : FieldType := match ci with
  | 0 => nm_Y0 k
  | 1 => nm_Y1 k
  | 2 => nm_Y2 k
  | 3 => nm_Y3 k
  | 4 => nm_Y4 k
  | 5 => nm_Y5 k
  | 6 => nm_Y6 k
  | 7 => nm_Y7 k
  | 8 => nm_Y8 k
  | 9 => nm_Y9 k
  | 10 => nm_Y10 k
  | 11 => nm_Y11 k
  | _ => .int
def nm_Fin (ci k : Nat) : Bool := match ci with
  | 0 => (nm_T0 k).2.2.2
  | 1 => (nm_T1 k).2.2.2
  | 2 => (nm_T2 k).2.2.2
  | 3 => (nm_T3 k).2.2.2
  | 4 => (nm_T4 k).2.2.2
  | 5 => (nm_T5 k).2.2.2
  | 6 => (nm_T6 k).2.2.2
  | 7 => (nm_T7 k).2.2.2
  | 8 => (nm_T8 k).2.2.2
  | 9 => (nm_T9 k).2.2.2
  | 10 => (nm_T10 k).2.2.2
  | 11 => (nm_T11 k).2.2.2
  | _ => false
theorem nm_in0 : ∀ w ∈ u_ws "CardOffice" nm_T0 8, w ∈ nm_Ts := by
  intro w hw
  obtain ⟨k, hk, rfl⟩ := List.mem_map.mp hw
  have hk := List.mem_range.mp hk
  match k, hk with
  | 0, _ => exact nm_t1 213 rfl rfl
  | 1, _ => exact nm_t1 215 rfl rfl
  | 2, _ => exact nm_t1 217 rfl rfl
  | 3, _ => exact nm_t1 219 rfl rfl
  | 4, _ => exact nm_t1 221 rfl rfl
  | 5, _ => exact nm_t1 223 rfl rfl
  | 6, _ => exact nm_t1 225 rfl rfl
  | 7, _ => exact nm_t1 227 rfl rfl
  | k + 8, h => exact absurd h (by omega)
theorem nm_nm0 : ∀ a, a < 8 → ∀ b, b < 8 → a ≠ b → (nm_T0 a).2.1 ≠ (nm_T0 b).2.1 := by decide +kernel
theorem nm_pt0 : ∀ k, k < 8 → parseFieldDescriptor (nm_T0 k).2.2.1 = some (nm_Y0 k) := by decide +kernel
theorem nm_ow0 : ∀ k, k < 8 → (nm_T0 k).1 = "CardOffice" := by decide +kernel
theorem nm_in1 : ∀ w ∈ u_ws "CardOffice$Board" nm_T1 4, w ∈ nm_Ts := by
  intro w hw
  obtain ⟨k, hk, rfl⟩ := List.mem_map.mp hw
  have hk := List.mem_range.mp hk
  match k, hk with
  | 0, _ => exact nm_t1 196 rfl rfl
  | 1, _ => exact nm_t1 198 rfl rfl
  | 2, _ => exact nm_t1 200 rfl rfl
  | 3, _ => exact nm_t1 202 rfl rfl
  | k + 4, h => exact absurd h (by omega)
theorem nm_nm1 : ∀ a, a < 4 → ∀ b, b < 4 → a ≠ b → (nm_T1 a).2.1 ≠ (nm_T1 b).2.1 := by decide +kernel
theorem nm_pt1 : ∀ k, k < 4 → parseFieldDescriptor (nm_T1 k).2.2.1 = some (nm_Y1 k) := by decide +kernel
theorem nm_ow1 : ∀ k, k < 4 → (nm_T1 k).1 = "CardOffice$Board" := by decide +kernel
theorem nm_in2 : ∀ w ∈ u_ws "CardOffice$Card" nm_T2 1, w ∈ nm_Ts := by
  intro w hw
  obtain ⟨k, hk, rfl⟩ := List.mem_map.mp hw
  have hk := List.mem_range.mp hk
  match k, hk with
  | 0, _ => exact nm_t2 21 rfl rfl
  | k + 1, h => exact absurd h (by omega)
theorem nm_nm2 : ∀ a, a < 1 → ∀ b, b < 1 → a ≠ b → (nm_T2 a).2.1 ≠ (nm_T2 b).2.1 := by decide +kernel
theorem nm_pt2 : ∀ k, k < 1 → parseFieldDescriptor (nm_T2 k).2.2.1 = some (nm_Y2 k) := by decide +kernel
theorem nm_ow2 : ∀ k, k < 1 → (nm_T2 k).1 = "CardOffice$Card" := by decide +kernel
theorem nm_in3 : ∀ w ∈ u_ws "CardOffice$Collator" nm_T3 3, w ∈ nm_Ts := by
  intro w hw
  obtain ⟨k, hk, rfl⟩ := List.mem_map.mp hw
  have hk := List.mem_range.mp hk
  match k, hk with
  | 0, _ => exact nm_t1 101 rfl rfl
  | 1, _ => exact nm_t1 103 rfl rfl
  | 2, _ => exact nm_t1 105 rfl rfl
  | k + 3, h => exact absurd h (by omega)
theorem nm_nm3 : ∀ a, a < 3 → ∀ b, b < 3 → a ≠ b → (nm_T3 a).2.1 ≠ (nm_T3 b).2.1 := by decide +kernel
theorem nm_pt3 : ∀ k, k < 3 → parseFieldDescriptor (nm_T3 k).2.2.1 = some (nm_Y3 k) := by decide +kernel
theorem nm_ow3 : ∀ k, k < 3 → (nm_T3 k).1 = "CardOffice$Collator" := by decide +kernel
theorem nm_in4 : ∀ w ∈ u_ws "CardOffice$Deck" nm_T4 2, w ∈ nm_Ts := by
  intro w hw
  obtain ⟨k, hk, rfl⟩ := List.mem_map.mp hw
  have hk := List.mem_range.mp hk
  match k, hk with
  | 0, _ => exact nm_t1 92 rfl rfl
  | 1, _ => exact nm_t1 94 rfl rfl
  | k + 2, h => exact absurd h (by omega)
theorem nm_nm4 : ∀ a, a < 2 → ∀ b, b < 2 → a ≠ b → (nm_T4 a).2.1 ≠ (nm_T4 b).2.1 := by decide +kernel
theorem nm_pt4 : ∀ k, k < 2 → parseFieldDescriptor (nm_T4 k).2.2.1 = some (nm_Y4 k) := by decide +kernel
theorem nm_ow4 : ∀ k, k < 2 → (nm_T4 k).1 = "CardOffice$Deck" := by decide +kernel
theorem nm_in5 : ∀ w ∈ u_ws "CardOffice$FaultLight" nm_T5 2, w ∈ nm_Ts := by
  intro w hw
  obtain ⟨k, hk, rfl⟩ := List.mem_map.mp hw
  have hk := List.mem_range.mp hk
  match k, hk with
  | 0, _ => exact nm_t1 45 rfl rfl
  | 1, _ => exact nm_t1 47 rfl rfl
  | k + 2, h => exact absurd h (by omega)
theorem nm_nm5 : ∀ a, a < 2 → ∀ b, b < 2 → a ≠ b → (nm_T5 a).2.1 ≠ (nm_T5 b).2.1 := by decide +kernel
theorem nm_pt5 : ∀ k, k < 2 → parseFieldDescriptor (nm_T5 k).2.2.1 = some (nm_Y5 k) := by decide +kernel
theorem nm_ow5 : ∀ k, k < 2 → (nm_T5 k).1 = "CardOffice$FaultLight" := by decide +kernel
theorem nm_in6 : ∀ w ∈ u_ws "CardOffice$Jacks" nm_T6 3, w ∈ nm_Ts := by
  intro w hw
  obtain ⟨k, hk, rfl⟩ := List.mem_map.mp hw
  have hk := List.mem_range.mp hk
  match k, hk with
  | 0, _ => exact nm_t1 126 rfl rfl
  | 1, _ => exact nm_t1 128 rfl rfl
  | 2, _ => exact nm_t1 130 rfl rfl
  | k + 3, h => exact absurd h (by omega)
theorem nm_nm6 : ∀ a, a < 3 → ∀ b, b < 3 → a ≠ b → (nm_T6 a).2.1 ≠ (nm_T6 b).2.1 := by decide +kernel
theorem nm_pt6 : ∀ k, k < 3 → parseFieldDescriptor (nm_T6 k).2.2.1 = some (nm_Y6 k) := by decide +kernel
theorem nm_ow6 : ∀ k, k < 3 → (nm_T6 k).1 = "CardOffice$Jacks" := by decide +kernel
theorem nm_in7 : ∀ w ∈ u_ws "CardOffice$Paper" nm_T7 2, w ∈ nm_Ts := by
  intro w hw
  obtain ⟨k, hk, rfl⟩ := List.mem_map.mp hw
  have hk := List.mem_range.mp hk
  match k, hk with
  | 0, _ => exact nm_t1 155 rfl rfl
  | 1, _ => exact nm_t1 157 rfl rfl
  | k + 2, h => exact absurd h (by omega)
theorem nm_nm7 : ∀ a, a < 2 → ∀ b, b < 2 → a ≠ b → (nm_T7 a).2.1 ≠ (nm_T7 b).2.1 := by decide +kernel
theorem nm_pt7 : ∀ k, k < 2 → parseFieldDescriptor (nm_T7 k).2.2.1 = some (nm_Y7 k) := by decide +kernel
theorem nm_ow7 : ∀ k, k < 2 → (nm_T7 k).1 = "CardOffice$Paper" := by decide +kernel
theorem nm_in8 : ∀ w ∈ u_ws "CardOffice$Reproducer" nm_T8 1, w ∈ nm_Ts := by
  intro w hw
  obtain ⟨k, hk, rfl⟩ := List.mem_map.mp hw
  have hk := List.mem_range.mp hk
  match k, hk with
  | 0, _ => exact nm_t1 134 rfl rfl
  | k + 1, h => exact absurd h (by omega)
theorem nm_nm8 : ∀ a, a < 1 → ∀ b, b < 1 → a ≠ b → (nm_T8 a).2.1 ≠ (nm_T8 b).2.1 := by decide +kernel
theorem nm_pt8 : ∀ k, k < 1 → parseFieldDescriptor (nm_T8 k).2.2.1 = some (nm_Y8 k) := by decide +kernel
theorem nm_ow8 : ∀ k, k < 1 → (nm_T8 k).1 = "CardOffice$Reproducer" := by decide +kernel
theorem nm_in9 : ∀ w ∈ u_ws "CardOffice$Sorter" nm_T9 3, w ∈ nm_Ts := by
  intro w hw
  obtain ⟨k, hk, rfl⟩ := List.mem_map.mp hw
  have hk := List.mem_range.mp hk
  match k, hk with
  | 0, _ => exact nm_t1 63 rfl rfl
  | 1, _ => exact nm_t1 65 rfl rfl
  | 2, _ => exact nm_t1 67 rfl rfl
  | k + 3, h => exact absurd h (by omega)
theorem nm_nm9 : ∀ a, a < 3 → ∀ b, b < 3 → a ≠ b → (nm_T9 a).2.1 ≠ (nm_T9 b).2.1 := by decide +kernel
theorem nm_pt9 : ∀ k, k < 3 → parseFieldDescriptor (nm_T9 k).2.2.1 = some (nm_Y9 k) := by decide +kernel
theorem nm_ow9 : ∀ k, k < 3 → (nm_T9 k).1 = "CardOffice$Sorter" := by decide +kernel
theorem nm_in10 : ∀ w ∈ u_ws "CardOffice$Tabulator" nm_T10 5, w ∈ nm_Ts := by
  intro w hw
  obtain ⟨k, hk, rfl⟩ := List.mem_map.mp hw
  have hk := List.mem_range.mp hk
  match k, hk with
  | 0, _ => exact nm_t1 169 rfl rfl
  | 1, _ => exact nm_t1 171 rfl rfl
  | 2, _ => exact nm_t1 173 rfl rfl
  | 3, _ => exact nm_t1 175 rfl rfl
  | 4, _ => exact nm_t1 177 rfl rfl
  | k + 5, h => exact absurd h (by omega)
theorem nm_nm10 : ∀ a, a < 5 → ∀ b, b < 5 → a ≠ b → (nm_T10 a).2.1 ≠ (nm_T10 b).2.1 := by decide +kernel
theorem nm_pt10 : ∀ k, k < 5 → parseFieldDescriptor (nm_T10 k).2.2.1 = some (nm_Y10 k) := by decide +kernel
theorem nm_ow10 : ∀ k, k < 5 → (nm_T10 k).1 = "CardOffice$Tabulator" := by decide +kernel
theorem nm_in11 : ∀ w ∈ u_ws "CardOfficeModel" nm_T11 19, w ∈ nm_Ts := by
  intro w hw
  obtain ⟨k, hk, rfl⟩ := List.mem_map.mp hw
  have hk := List.mem_range.mp hk
  match k, hk with
  | 0, _ => exact nm_t4 102 rfl rfl
  | 1, _ => exact nm_t4 104 rfl rfl
  | 2, _ => exact nm_t4 106 rfl rfl
  | 3, _ => exact nm_t4 108 rfl rfl
  | 4, _ => exact nm_t4 110 rfl rfl
  | 5, _ => exact nm_t4 112 rfl rfl
  | 6, _ => exact nm_t4 114 rfl rfl
  | 7, _ => exact nm_t4 116 rfl rfl
  | 8, _ => exact nm_t4 118 rfl rfl
  | 9, _ => exact nm_t4 120 rfl rfl
  | 10, _ => exact nm_t4 122 rfl rfl
  | 11, _ => exact nm_t4 124 rfl rfl
  | 12, _ => exact nm_t4 126 rfl rfl
  | 13, _ => exact nm_t4 128 rfl rfl
  | 14, _ => exact nm_t4 130 rfl rfl
  | 15, _ => exact nm_t4 132 rfl rfl
  | 16, _ => exact nm_t4 134 rfl rfl
  | 17, _ => exact nm_t4 136 rfl rfl
  | 18, _ => exact nm_t4 138 rfl rfl
  | k + 19, h => exact absurd h (by omega)
theorem nm_nm11 : ∀ a, a < 19 → ∀ b, b < 19 → a ≠ b → (nm_T11 a).2.1 ≠ (nm_T11 b).2.1 := by decide +kernel
theorem nm_pt11 : ∀ k, k < 19 → parseFieldDescriptor (nm_T11 k).2.2.1 = some (nm_Y11 k) := by decide +kernel
theorem nm_ow11 : ∀ k, k < 19 → (nm_T11 k).1 = "CardOfficeModel" := by decide +kernel
theorem nm_Cl_ws {ci : Nat} {C : String} {T : u_T} {N : Nat} (hc : nm_Cl[ci]? = some (C, T, N)) : ∀ w ∈ u_ws C T N, w ∈ nm_Ts := by
  match ci, hc with
  | 0, hc => cases hc; exact nm_in0
  | 1, hc => cases hc; exact nm_in1
  | 2, hc => cases hc; exact nm_in2
  | 3, hc => cases hc; exact nm_in3
  | 4, hc => cases hc; exact nm_in4
  | 5, hc => cases hc; exact nm_in5
  | 6, hc => cases hc; exact nm_in6
  | 7, hc => cases hc; exact nm_in7
  | 8, hc => cases hc; exact nm_in8
  | 9, hc => cases hc; exact nm_in9
  | 10, hc => cases hc; exact nm_in10
  | 11, hc => cases hc; exact nm_in11
  | k + 12, hc => exact absurd (List.getElem?_eq_some_iff.mp hc).1 (by simp [nm_Cl])
theorem nm_Cl_nm {ci : Nat} {C : String} {T : u_T} {N : Nat} (hc : nm_Cl[ci]? = some (C, T, N)) : ∀ a, a < N → ∀ b, b < N → a ≠ b → (T a).2.1 ≠ (T b).2.1 := by
  match ci, hc with
  | 0, hc => cases hc; exact nm_nm0
  | 1, hc => cases hc; exact nm_nm1
  | 2, hc => cases hc; exact nm_nm2
  | 3, hc => cases hc; exact nm_nm3
  | 4, hc => cases hc; exact nm_nm4
  | 5, hc => cases hc; exact nm_nm5
  | 6, hc => cases hc; exact nm_nm6
  | 7, hc => cases hc; exact nm_nm7
  | 8, hc => cases hc; exact nm_nm8
  | 9, hc => cases hc; exact nm_nm9
  | 10, hc => cases hc; exact nm_nm10
  | 11, hc => cases hc; exact nm_nm11
  | k + 12, hc => exact absurd (List.getElem?_eq_some_iff.mp hc).1 (by simp [nm_Cl])
theorem nm_Cl_ty {ci : Nat} {C : String} {T : u_T} {N : Nat} (hc : nm_Cl[ci]? = some (C, T, N)) : ∀ k, k < N → parseFieldDescriptor (T k).2.2.1 = some (nm_FTy ci k) := by
  match ci, hc with
  | 0, hc => cases hc; exact nm_pt0
  | 1, hc => cases hc; exact nm_pt1
  | 2, hc => cases hc; exact nm_pt2
  | 3, hc => cases hc; exact nm_pt3
  | 4, hc => cases hc; exact nm_pt4
  | 5, hc => cases hc; exact nm_pt5
  | 6, hc => cases hc; exact nm_pt6
  | 7, hc => cases hc; exact nm_pt7
  | 8, hc => cases hc; exact nm_pt8
  | 9, hc => cases hc; exact nm_pt9
  | 10, hc => cases hc; exact nm_pt10
  | 11, hc => cases hc; exact nm_pt11
  | k + 12, hc => exact absurd (List.getElem?_eq_some_iff.mp hc).1 (by simp [nm_Cl])
theorem nm_Cl_own {ci : Nat} {C : String} {T : u_T} {N : Nat} (hc : nm_Cl[ci]? = some (C, T, N)) : ∀ k, k < N → (T k).1 = nm_Own ci := by
  match ci, hc with
  | 0, hc => cases hc; exact nm_ow0
  | 1, hc => cases hc; exact nm_ow1
  | 2, hc => cases hc; exact nm_ow2
  | 3, hc => cases hc; exact nm_ow3
  | 4, hc => cases hc; exact nm_ow4
  | 5, hc => cases hc; exact nm_ow5
  | 6, hc => cases hc; exact nm_ow6
  | 7, hc => cases hc; exact nm_ow7
  | 8, hc => cases hc; exact nm_ow8
  | 9, hc => cases hc; exact nm_ow9
  | 10, hc => cases hc; exact nm_ow10
  | 11, hc => cases hc; exact nm_ow11
  | k + 12, hc => exact absurd (List.getElem?_eq_some_iff.mp hc).1 (by simp [nm_Cl])
theorem nm_Fin_ok {ci : Nat} {C : String} {T : u_T} {N k : Nat} (hc : nm_Cl[ci]? = some (C, T, N)) (hk : k < N) : nm_Fin ci k = (T k).2.2.2 := by
  match ci, hc with
  | 0, hc => cases hc; rfl
  | 1, hc => cases hc; rfl
  | 2, hc => cases hc; rfl
  | 3, hc => cases hc; rfl
  | 4, hc => cases hc; rfl
  | 5, hc => cases hc; rfl
  | 6, hc => cases hc; rfl
  | 7, hc => cases hc; rfl
  | 8, hc => cases hc; rfl
  | 9, hc => cases hc; rfl
  | 10, hc => cases hc; rfl
  | 11, hc => cases hc; rfl
  | k + 12, hc => exact absurd (List.getElem?_eq_some_iff.mp hc).1 (by simp [nm_Cl])
def nm_FL : List (Nat × Nat × Nat × Nat × Bool) := [(0, 11, 0, 0, true), (0, 17, 0, 1, true), (0, 21, 0, 2, true), (0, 28, 0, 3, true), (0, 35, 0, 4, true), (0, 42, 0, 5, true), (0, 49, 0, 6, true), (0, 56, 0, 7, true), (0, 77, 2, 0, false), (0, 103, 1, 2, false), (0, 183, 4, 1, false), (0, 200, 10, 1, false), (0, 204, 7, 1, false), (0, 211, 7, 0, false), (0, 216, 10, 0, false), (0, 219, 5, 0, false), (0, 222, 5, 1, false), (0, 225, 1, 3, false), (0, 228, 9, 2, false), (0, 231, 3, 2, false), (1, 9, 1, 0, true), (1, 15, 1, 1, true), (1, 18, 1, 2, true), (1, 27, 1, 3, true), (1, 35, 2, 0, false), (2, 9, 2, 0, true), (3, 10, 3, 0, true), (3, 16, 3, 1, true), (3, 19, 4, 1, false), (3, 23, 3, 2, true), (4, 11, 4, 0, true), (4, 17, 4, 1, true), (4, 35, 2, 0, false), (5, 9, 5, 0, true), (5, 15, 5, 1, true), (6, 9, 6, 0, true), (6, 15, 6, 1, true), (6, 25, 6, 2, true), (7, 11, 7, 0, true), (7, 16, 7, 1, true), (8, 14, 8, 0, true), (8, 20, 4, 1, false), (8, 36, 6, 2, false), (8, 58, 2, 0, false), (8, 78, 6, 1, false), (9, 9, 9, 0, true), (9, 17, 9, 1, true), (9, 21, 9, 2, true), (9, 33, 4, 1, false), (9, 46, 4, 0, false), (9, 67, 2, 0, false), (10, 9, 10, 0, true), (10, 18, 10, 1, true), (10, 27, 10, 2, true), (10, 31, 10, 3, true), (10, 34, 10, 4, true), (10, 49, 4, 1, false), (10, 101, 6, 2, false), (10, 120, 1, 2, false), (11, 7, 11, 2, true), (11, 13, 11, 3, true), (11, 17, 11, 4, true), (11, 21, 11, 5, true), (11, 24, 11, 6, true), (11, 27, 11, 7, true), (11, 30, 11, 8, true), (11, 33, 11, 9, true), (11, 36, 11, 10, true), (11, 39, 11, 11, true), (11, 42, 11, 12, true), (11, 45, 11, 13, true), (11, 48, 11, 18, true), (11, 52, 11, 0, true), (11, 62, 11, 1, true), (11, 105, 11, 15, true), (11, 133, 11, 16, true), (11, 148, 11, 17, true), (11, 188, 11, 14, true), (12, 9, 4, 1, false), (12, 66, 2, 0, false)]
def nm_Fld (cn idx : Nat) : Option (Nat × Nat) := (nm_FL.find? (fun q => q.1 == cn && q.2.1 == idx)).map (fun q => (q.2.2.1, q.2.2.2.1))
def nm_FldF (cn idx : Nat) : Bool := ((nm_FL.find? (fun q => q.1 == cn && q.2.1 == idx)).map (fun q => q.2.2.2.2)).getD false
def nm_FP (q : Nat × Nat × Nat × Nat × Bool) : Prop := ∃ C T N, nm_Cl[q.2.2.1]? = some (C, T, N) ∧ q.2.2.2.1 < N ∧ (if q.2.2.2.2 = true then Cond.fieldLink (nm_Own q.1) q.2.1 (T q.2.2.2.1).1 (T q.2.2.2.1).2.1 (T q.2.2.2.1).2.2.1 ∈ nm_Ts else Cond.fieldLinkNest (nm_Own q.1) q.2.1 (T q.2.2.2.1).1 (T q.2.2.2.1).2.1 (T q.2.2.2.1).2.2.1 nm_host ∈ nm_Ns)
theorem nm_f0 : nm_FP (0, 11, 0, 0, true) := ⟨"CardOffice", nm_T0, 8, rfl, (by decide : 0 < 8), nm_t1 205 rfl rfl⟩
theorem nm_f1 : nm_FP (0, 17, 0, 1, true) := ⟨"CardOffice", nm_T0, 8, rfl, (by decide : 1 < 8), nm_t1 206 rfl rfl⟩
theorem nm_f2 : nm_FP (0, 21, 0, 2, true) := ⟨"CardOffice", nm_T0, 8, rfl, (by decide : 2 < 8), nm_t1 207 rfl rfl⟩
theorem nm_f3 : nm_FP (0, 28, 0, 3, true) := ⟨"CardOffice", nm_T0, 8, rfl, (by decide : 3 < 8), nm_t1 208 rfl rfl⟩
theorem nm_f4 : nm_FP (0, 35, 0, 4, true) := ⟨"CardOffice", nm_T0, 8, rfl, (by decide : 4 < 8), nm_t1 209 rfl rfl⟩
theorem nm_f5 : nm_FP (0, 42, 0, 5, true) := ⟨"CardOffice", nm_T0, 8, rfl, (by decide : 5 < 8), nm_t1 210 rfl rfl⟩
theorem nm_f6 : nm_FP (0, 49, 0, 6, true) := ⟨"CardOffice", nm_T0, 8, rfl, (by decide : 6 < 8), nm_t1 211 rfl rfl⟩
theorem nm_f7 : nm_FP (0, 56, 0, 7, true) := ⟨"CardOffice", nm_T0, 8, rfl, (by decide : 7 < 8), nm_t1 212 rfl rfl⟩
theorem nm_f8 : nm_FP (0, 77, 2, 0, false) := ⟨"CardOffice$Card", nm_T2, 1, rfl, (by decide : 0 < 1), nm_n2 15 rfl rfl⟩
theorem nm_f9 : nm_FP (0, 103, 1, 2, false) := ⟨"CardOffice$Board", nm_T1, 4, rfl, (by decide : 2 < 4), nm_n1 192 rfl rfl⟩
theorem nm_f10 : nm_FP (0, 183, 4, 1, false) := ⟨"CardOffice$Deck", nm_T4, 2, rfl, (by decide : 1 < 2), nm_n1 91 rfl rfl⟩
theorem nm_f11 : nm_FP (0, 200, 10, 1, false) := ⟨"CardOffice$Tabulator", nm_T10, 5, rfl, (by decide : 1 < 5), nm_n1 165 rfl rfl⟩
theorem nm_f12 : nm_FP (0, 204, 7, 1, false) := ⟨"CardOffice$Paper", nm_T7, 2, rfl, (by decide : 1 < 2), nm_n1 154 rfl rfl⟩
theorem nm_f13 : nm_FP (0, 211, 7, 0, false) := ⟨"CardOffice$Paper", nm_T7, 2, rfl, (by decide : 0 < 2), nm_n1 152 rfl rfl⟩
theorem nm_f14 : nm_FP (0, 216, 10, 0, false) := ⟨"CardOffice$Tabulator", nm_T10, 5, rfl, (by decide : 0 < 5), nm_n1 163 rfl rfl⟩
theorem nm_f15 : nm_FP (0, 219, 5, 0, false) := ⟨"CardOffice$FaultLight", nm_T5, 2, rfl, (by decide : 0 < 2), nm_n1 42 rfl rfl⟩
theorem nm_f16 : nm_FP (0, 222, 5, 1, false) := ⟨"CardOffice$FaultLight", nm_T5, 2, rfl, (by decide : 1 < 2), nm_n1 44 rfl rfl⟩
theorem nm_f17 : nm_FP (0, 225, 1, 3, false) := ⟨"CardOffice$Board", nm_T1, 4, rfl, (by decide : 3 < 4), nm_n1 195 rfl rfl⟩
theorem nm_f18 : nm_FP (0, 228, 9, 2, false) := ⟨"CardOffice$Sorter", nm_T9, 3, rfl, (by decide : 2 < 3), nm_n1 62 rfl rfl⟩
theorem nm_f19 : nm_FP (0, 231, 3, 2, false) := ⟨"CardOffice$Collator", nm_T3, 3, rfl, (by decide : 2 < 3), nm_n1 100 rfl rfl⟩
theorem nm_f20 : nm_FP (1, 9, 1, 0, true) := ⟨"CardOffice$Board", nm_T1, 4, rfl, (by decide : 0 < 4), nm_t1 189 rfl rfl⟩
theorem nm_f21 : nm_FP (1, 15, 1, 1, true) := ⟨"CardOffice$Board", nm_T1, 4, rfl, (by decide : 1 < 4), nm_t1 190 rfl rfl⟩
theorem nm_f22 : nm_FP (1, 18, 1, 2, true) := ⟨"CardOffice$Board", nm_T1, 4, rfl, (by decide : 2 < 4), nm_t1 191 rfl rfl⟩
theorem nm_f23 : nm_FP (1, 27, 1, 3, true) := ⟨"CardOffice$Board", nm_T1, 4, rfl, (by decide : 3 < 4), nm_t1 194 rfl rfl⟩
theorem nm_f24 : nm_FP (1, 35, 2, 0, false) := ⟨"CardOffice$Card", nm_T2, 1, rfl, (by decide : 0 < 1), nm_n2 19 rfl rfl⟩
theorem nm_f25 : nm_FP (2, 9, 2, 0, true) := ⟨"CardOffice$Card", nm_T2, 1, rfl, (by decide : 0 < 1), nm_t2 14 rfl rfl⟩
theorem nm_f26 : nm_FP (3, 10, 3, 0, true) := ⟨"CardOffice$Collator", nm_T3, 3, rfl, (by decide : 0 < 3), nm_t1 97 rfl rfl⟩
theorem nm_f27 : nm_FP (3, 16, 3, 1, true) := ⟨"CardOffice$Collator", nm_T3, 3, rfl, (by decide : 1 < 3), nm_t1 98 rfl rfl⟩
theorem nm_f28 : nm_FP (3, 19, 4, 1, false) := ⟨"CardOffice$Deck", nm_T4, 2, rfl, (by decide : 1 < 2), nm_n1 85 rfl rfl⟩
theorem nm_f29 : nm_FP (3, 23, 3, 2, true) := ⟨"CardOffice$Collator", nm_T3, 3, rfl, (by decide : 2 < 3), nm_t1 99 rfl rfl⟩
theorem nm_f30 : nm_FP (4, 11, 4, 0, true) := ⟨"CardOffice$Deck", nm_T4, 2, rfl, (by decide : 0 < 2), nm_t1 83 rfl rfl⟩
theorem nm_f31 : nm_FP (4, 17, 4, 1, true) := ⟨"CardOffice$Deck", nm_T4, 2, rfl, (by decide : 1 < 2), nm_t1 90 rfl rfl⟩
theorem nm_f32 : nm_FP (4, 35, 2, 0, false) := ⟨"CardOffice$Card", nm_T2, 1, rfl, (by decide : 0 < 1), nm_n2 20 rfl rfl⟩
theorem nm_f33 : nm_FP (5, 9, 5, 0, true) := ⟨"CardOffice$FaultLight", nm_T5, 2, rfl, (by decide : 0 < 2), nm_t1 41 rfl rfl⟩
theorem nm_f34 : nm_FP (5, 15, 5, 1, true) := ⟨"CardOffice$FaultLight", nm_T5, 2, rfl, (by decide : 1 < 2), nm_t1 43 rfl rfl⟩
theorem nm_f35 : nm_FP (6, 9, 6, 0, true) := ⟨"CardOffice$Jacks", nm_T6, 3, rfl, (by decide : 0 < 3), nm_t1 120 rfl rfl⟩
theorem nm_f36 : nm_FP (6, 15, 6, 1, true) := ⟨"CardOffice$Jacks", nm_T6, 3, rfl, (by decide : 1 < 3), nm_t1 121 rfl rfl⟩
theorem nm_f37 : nm_FP (6, 25, 6, 2, true) := ⟨"CardOffice$Jacks", nm_T6, 3, rfl, (by decide : 2 < 3), nm_t1 123 rfl rfl⟩
theorem nm_f38 : nm_FP (7, 11, 7, 0, true) := ⟨"CardOffice$Paper", nm_T7, 2, rfl, (by decide : 0 < 2), nm_t1 151 rfl rfl⟩
theorem nm_f39 : nm_FP (7, 16, 7, 1, true) := ⟨"CardOffice$Paper", nm_T7, 2, rfl, (by decide : 1 < 2), nm_t1 153 rfl rfl⟩
theorem nm_f40 : nm_FP (8, 14, 8, 0, true) := ⟨"CardOffice$Reproducer", nm_T8, 1, rfl, (by decide : 0 < 1), nm_t1 133 rfl rfl⟩
theorem nm_f41 : nm_FP (8, 20, 4, 1, false) := ⟨"CardOffice$Deck", nm_T4, 2, rfl, (by decide : 1 < 2), nm_n1 86 rfl rfl⟩
theorem nm_f42 : nm_FP (8, 36, 6, 2, false) := ⟨"CardOffice$Jacks", nm_T6, 3, rfl, (by decide : 2 < 3), nm_n1 124 rfl rfl⟩
theorem nm_f43 : nm_FP (8, 58, 2, 0, false) := ⟨"CardOffice$Card", nm_T2, 1, rfl, (by decide : 0 < 1), nm_n2 16 rfl rfl⟩
theorem nm_f44 : nm_FP (8, 78, 6, 1, false) := ⟨"CardOffice$Jacks", nm_T6, 3, rfl, (by decide : 1 < 3), nm_n1 122 rfl rfl⟩
theorem nm_f45 : nm_FP (9, 9, 9, 0, true) := ⟨"CardOffice$Sorter", nm_T9, 3, rfl, (by decide : 0 < 3), nm_t1 59 rfl rfl⟩
theorem nm_f46 : nm_FP (9, 17, 9, 1, true) := ⟨"CardOffice$Sorter", nm_T9, 3, rfl, (by decide : 1 < 3), nm_t1 60 rfl rfl⟩
theorem nm_f47 : nm_FP (9, 21, 9, 2, true) := ⟨"CardOffice$Sorter", nm_T9, 3, rfl, (by decide : 2 < 3), nm_t1 61 rfl rfl⟩
theorem nm_f48 : nm_FP (9, 33, 4, 1, false) := ⟨"CardOffice$Deck", nm_T4, 2, rfl, (by decide : 1 < 2), nm_n1 89 rfl rfl⟩
theorem nm_f49 : nm_FP (9, 46, 4, 0, false) := ⟨"CardOffice$Deck", nm_T4, 2, rfl, (by decide : 0 < 2), nm_n1 84 rfl rfl⟩
theorem nm_f50 : nm_FP (9, 67, 2, 0, false) := ⟨"CardOffice$Card", nm_T2, 1, rfl, (by decide : 0 < 1), nm_n2 18 rfl rfl⟩
theorem nm_f51 : nm_FP (10, 9, 10, 0, true) := ⟨"CardOffice$Tabulator", nm_T10, 5, rfl, (by decide : 0 < 5), nm_t1 162 rfl rfl⟩
theorem nm_f52 : nm_FP (10, 18, 10, 1, true) := ⟨"CardOffice$Tabulator", nm_T10, 5, rfl, (by decide : 1 < 5), nm_t1 164 rfl rfl⟩
theorem nm_f53 : nm_FP (10, 27, 10, 2, true) := ⟨"CardOffice$Tabulator", nm_T10, 5, rfl, (by decide : 2 < 5), nm_t1 166 rfl rfl⟩
theorem nm_f54 : nm_FP (10, 31, 10, 3, true) := ⟨"CardOffice$Tabulator", nm_T10, 5, rfl, (by decide : 3 < 5), nm_t1 167 rfl rfl⟩
theorem nm_f55 : nm_FP (10, 34, 10, 4, true) := ⟨"CardOffice$Tabulator", nm_T10, 5, rfl, (by decide : 4 < 5), nm_t1 168 rfl rfl⟩
theorem nm_f56 : nm_FP (10, 49, 4, 1, false) := ⟨"CardOffice$Deck", nm_T4, 2, rfl, (by decide : 1 < 2), nm_n1 88 rfl rfl⟩
theorem nm_f57 : nm_FP (10, 101, 6, 2, false) := ⟨"CardOffice$Jacks", nm_T6, 3, rfl, (by decide : 2 < 3), nm_n1 125 rfl rfl⟩
theorem nm_f58 : nm_FP (10, 120, 1, 2, false) := ⟨"CardOffice$Board", nm_T1, 4, rfl, (by decide : 2 < 4), nm_n1 193 rfl rfl⟩
theorem nm_f59 : nm_FP (11, 7, 11, 2, true) := ⟨"CardOfficeModel", nm_T11, 19, rfl, (by decide : 2 < 19), nm_t4 85 rfl rfl⟩
theorem nm_f60 : nm_FP (11, 13, 11, 3, true) := ⟨"CardOfficeModel", nm_T11, 19, rfl, (by decide : 3 < 19), nm_t4 86 rfl rfl⟩
theorem nm_f61 : nm_FP (11, 17, 11, 4, true) := ⟨"CardOfficeModel", nm_T11, 19, rfl, (by decide : 4 < 19), nm_t4 87 rfl rfl⟩
theorem nm_f62 : nm_FP (11, 21, 11, 5, true) := ⟨"CardOfficeModel", nm_T11, 19, rfl, (by decide : 5 < 19), nm_t4 88 rfl rfl⟩
theorem nm_f63 : nm_FP (11, 24, 11, 6, true) := ⟨"CardOfficeModel", nm_T11, 19, rfl, (by decide : 6 < 19), nm_t4 89 rfl rfl⟩
theorem nm_f64 : nm_FP (11, 27, 11, 7, true) := ⟨"CardOfficeModel", nm_T11, 19, rfl, (by decide : 7 < 19), nm_t4 90 rfl rfl⟩
theorem nm_f65 : nm_FP (11, 30, 11, 8, true) := ⟨"CardOfficeModel", nm_T11, 19, rfl, (by decide : 8 < 19), nm_t4 91 rfl rfl⟩
theorem nm_f66 : nm_FP (11, 33, 11, 9, true) := ⟨"CardOfficeModel", nm_T11, 19, rfl, (by decide : 9 < 19), nm_t4 92 rfl rfl⟩
theorem nm_f67 : nm_FP (11, 36, 11, 10, true) := ⟨"CardOfficeModel", nm_T11, 19, rfl, (by decide : 10 < 19), nm_t4 93 rfl rfl⟩
theorem nm_f68 : nm_FP (11, 39, 11, 11, true) := ⟨"CardOfficeModel", nm_T11, 19, rfl, (by decide : 11 < 19), nm_t4 94 rfl rfl⟩
theorem nm_f69 : nm_FP (11, 42, 11, 12, true) := ⟨"CardOfficeModel", nm_T11, 19, rfl, (by decide : 12 < 19), nm_t4 95 rfl rfl⟩
theorem nm_f70 : nm_FP (11, 45, 11, 13, true) := ⟨"CardOfficeModel", nm_T11, 19, rfl, (by decide : 13 < 19), nm_t4 96 rfl rfl⟩
theorem nm_f71 : nm_FP (11, 48, 11, 18, true) := ⟨"CardOfficeModel", nm_T11, 19, rfl, (by decide : 18 < 19), nm_t4 101 rfl rfl⟩
theorem nm_f72 : nm_FP (11, 52, 11, 0, true) := ⟨"CardOfficeModel", nm_T11, 19, rfl, (by decide : 0 < 19), nm_t4 83 rfl rfl⟩
theorem nm_f73 : nm_FP (11, 62, 11, 1, true) := ⟨"CardOfficeModel", nm_T11, 19, rfl, (by decide : 1 < 19), nm_t4 84 rfl rfl⟩
theorem nm_f74 : nm_FP (11, 105, 11, 15, true) := ⟨"CardOfficeModel", nm_T11, 19, rfl, (by decide : 15 < 19), nm_t4 98 rfl rfl⟩
theorem nm_f75 : nm_FP (11, 133, 11, 16, true) := ⟨"CardOfficeModel", nm_T11, 19, rfl, (by decide : 16 < 19), nm_t4 99 rfl rfl⟩
theorem nm_f76 : nm_FP (11, 148, 11, 17, true) := ⟨"CardOfficeModel", nm_T11, 19, rfl, (by decide : 17 < 19), nm_t4 100 rfl rfl⟩
theorem nm_f77 : nm_FP (11, 188, 11, 14, true) := ⟨"CardOfficeModel", nm_T11, 19, rfl, (by decide : 14 < 19), nm_t4 97 rfl rfl⟩
theorem nm_f78 : nm_FP (12, 9, 4, 1, false) := ⟨"CardOffice$Deck", nm_T4, 2, rfl, (by decide : 1 < 2), nm_n1 87 rfl rfl⟩
theorem nm_f79 : nm_FP (12, 66, 2, 0, false) := ⟨"CardOffice$Card", nm_T2, 1, rfl, (by decide : 0 < 1), nm_n2 17 rfl rfl⟩
set_option maxRecDepth 20000 in
theorem nm_FL_ok : ∀ q ∈ nm_FL, nm_FP q := List.forall_mem_cons.mpr ⟨nm_f0, List.forall_mem_cons.mpr ⟨nm_f1, List.forall_mem_cons.mpr ⟨nm_f2, List.forall_mem_cons.mpr ⟨nm_f3, List.forall_mem_cons.mpr ⟨nm_f4, List.forall_mem_cons.mpr ⟨nm_f5, List.forall_mem_cons.mpr ⟨nm_f6, List.forall_mem_cons.mpr ⟨nm_f7, List.forall_mem_cons.mpr ⟨nm_f8, List.forall_mem_cons.mpr ⟨nm_f9, List.forall_mem_cons.mpr ⟨nm_f10, List.forall_mem_cons.mpr ⟨nm_f11, List.forall_mem_cons.mpr ⟨nm_f12, List.forall_mem_cons.mpr ⟨nm_f13, List.forall_mem_cons.mpr ⟨nm_f14, List.forall_mem_cons.mpr ⟨nm_f15, List.forall_mem_cons.mpr ⟨nm_f16, List.forall_mem_cons.mpr ⟨nm_f17, List.forall_mem_cons.mpr ⟨nm_f18, List.forall_mem_cons.mpr ⟨nm_f19, List.forall_mem_cons.mpr ⟨nm_f20, List.forall_mem_cons.mpr ⟨nm_f21, List.forall_mem_cons.mpr ⟨nm_f22, List.forall_mem_cons.mpr ⟨nm_f23, List.forall_mem_cons.mpr ⟨nm_f24, List.forall_mem_cons.mpr ⟨nm_f25, List.forall_mem_cons.mpr ⟨nm_f26, List.forall_mem_cons.mpr ⟨nm_f27, List.forall_mem_cons.mpr ⟨nm_f28, List.forall_mem_cons.mpr ⟨nm_f29, List.forall_mem_cons.mpr ⟨nm_f30, List.forall_mem_cons.mpr ⟨nm_f31, List.forall_mem_cons.mpr ⟨nm_f32, List.forall_mem_cons.mpr ⟨nm_f33, List.forall_mem_cons.mpr ⟨nm_f34, List.forall_mem_cons.mpr ⟨nm_f35, List.forall_mem_cons.mpr ⟨nm_f36, List.forall_mem_cons.mpr ⟨nm_f37, List.forall_mem_cons.mpr ⟨nm_f38, List.forall_mem_cons.mpr ⟨nm_f39, List.forall_mem_cons.mpr ⟨nm_f40, List.forall_mem_cons.mpr ⟨nm_f41, List.forall_mem_cons.mpr ⟨nm_f42, List.forall_mem_cons.mpr ⟨nm_f43, List.forall_mem_cons.mpr ⟨nm_f44, List.forall_mem_cons.mpr ⟨nm_f45, List.forall_mem_cons.mpr ⟨nm_f46, List.forall_mem_cons.mpr ⟨nm_f47, List.forall_mem_cons.mpr ⟨nm_f48, List.forall_mem_cons.mpr ⟨nm_f49, List.forall_mem_cons.mpr ⟨nm_f50, List.forall_mem_cons.mpr ⟨nm_f51, List.forall_mem_cons.mpr ⟨nm_f52, List.forall_mem_cons.mpr ⟨nm_f53, List.forall_mem_cons.mpr ⟨nm_f54, List.forall_mem_cons.mpr ⟨nm_f55, List.forall_mem_cons.mpr ⟨nm_f56, List.forall_mem_cons.mpr ⟨nm_f57, List.forall_mem_cons.mpr ⟨nm_f58, List.forall_mem_cons.mpr ⟨nm_f59, List.forall_mem_cons.mpr ⟨nm_f60, List.forall_mem_cons.mpr ⟨nm_f61, List.forall_mem_cons.mpr ⟨nm_f62, List.forall_mem_cons.mpr ⟨nm_f63, List.forall_mem_cons.mpr ⟨nm_f64, List.forall_mem_cons.mpr ⟨nm_f65, List.forall_mem_cons.mpr ⟨nm_f66, List.forall_mem_cons.mpr ⟨nm_f67, List.forall_mem_cons.mpr ⟨nm_f68, List.forall_mem_cons.mpr ⟨nm_f69, List.forall_mem_cons.mpr ⟨nm_f70, List.forall_mem_cons.mpr ⟨nm_f71, List.forall_mem_cons.mpr ⟨nm_f72, List.forall_mem_cons.mpr ⟨nm_f73, List.forall_mem_cons.mpr ⟨nm_f74, List.forall_mem_cons.mpr ⟨nm_f75, List.forall_mem_cons.mpr ⟨nm_f76, List.forall_mem_cons.mpr ⟨nm_f77, List.forall_mem_cons.mpr ⟨nm_f78, List.forall_mem_cons.mpr ⟨nm_f79, fun _ h => absurd h List.not_mem_nil⟩⟩⟩⟩⟩⟩⟩⟩⟩⟩⟩⟩⟩⟩⟩⟩⟩⟩⟩⟩⟩⟩⟩⟩⟩⟩⟩⟩⟩⟩⟩⟩⟩⟩⟩⟩⟩⟩⟩⟩⟩⟩⟩⟩⟩⟩⟩⟩⟩⟩⟩⟩⟩⟩⟩⟩⟩⟩⟩⟩⟩⟩⟩⟩⟩⟩⟩⟩⟩⟩⟩⟩⟩⟩⟩⟩⟩⟩⟩⟩
theorem nm_Fld_ok {cn idx ci k : Nat} (h : nm_Fld cn idx = some (ci, k)) : ∃ C T N, nm_Cl[ci]? = some (C, T, N) ∧ k < N ∧ (Cond.fieldLink (nm_Own cn) idx (T k).1 (T k).2.1 (T k).2.2.1 ∈ nm_Ts ∨ Cond.fieldLinkNest (nm_Own cn) idx (T k).1 (T k).2.1 (T k).2.2.1 nm_host ∈ nm_Ns) := by
  unfold nm_Fld at h
  obtain ⟨q, hq, he⟩ := Option.map_eq_some_iff.mp h
  have h1 := nm_FL_ok q (List.mem_of_find?_eq_some hq)
  have h2 := List.find?_some hq
  simp only [Bool.and_eq_true, beq_iff_eq] at h2
  obtain ⟨a, b, c, d, e⟩ := q
  obtain ⟨rfl, rfl⟩ := h2
  cases he
  obtain ⟨C, T, N, g1, g2, g3⟩ := h1
  refine ⟨C, T, N, g1, g2, ?_⟩
  cases e with
  | true => exact Or.inl g3
  | false => exact Or.inr g3
theorem nm_FldF_ok {cn idx ci k : Nat} (h : nm_Fld cn idx = some (ci, k)) (hF : nm_FldF cn idx = true) : ∃ C T N, nm_Cl[ci]? = some (C, T, N) ∧ k < N ∧ Cond.fieldLink (nm_Own cn) idx (T k).1 (T k).2.1 (T k).2.2.1 ∈ nm_Ts := by
  unfold nm_Fld at h
  obtain ⟨q, hq, he⟩ := Option.map_eq_some_iff.mp h
  have h1 := nm_FL_ok q (List.mem_of_find?_eq_some hq)
  have h2 := List.find?_some hq
  simp only [Bool.and_eq_true, beq_iff_eq] at h2
  unfold nm_FldF at hF
  rw [hq] at hF
  obtain ⟨a, b, c, d, e⟩ := q
  obtain ⟨rfl, rfl⟩ := h2
  cases he
  obtain ⟨C, T, N, g1, g2, g3⟩ := h1
  refine ⟨C, T, N, g1, g2, ?_⟩
  have : e = true := hF
  subst this
  exact g3
def nm_St : List (Nat × String × String × String) := [(1000000000001, "CardOffice", "POWERS", "[I")]
def nm_SL : List (Nat × Nat × Bool) := [(12, 45, false), (1, 64, false), (10, 126, false)]
def nm_Sta (cn idx : Nat) : Option Nat := (nm_SL.find? (fun q => q.1 == cn && q.2.1 == idx)).map (fun _ => 1000000000001)
def nm_SP (q : Nat × Nat × Bool) : Prop := if q.2.2 = true then Cond.fieldLink (nm_Own q.1) q.2.1 "CardOffice" "POWERS" "[I" ∈ nm_Ts else Cond.fieldLinkNest (nm_Own q.1) q.2.1 "CardOffice" "POWERS" "[I" nm_host ∈ nm_Ns
theorem nm_sf0 : nm_SP (12, 45, false) := nm_n3 171 rfl rfl
theorem nm_sf1 : nm_SP (1, 64, false) := nm_n3 225 rfl rfl
theorem nm_sf2 : nm_SP (10, 126, false) := nm_n3 237 rfl rfl
theorem nm_SL_ok : ∀ q ∈ nm_SL, nm_SP q := List.forall_mem_cons.mpr ⟨nm_sf0, List.forall_mem_cons.mpr ⟨nm_sf1, List.forall_mem_cons.mpr ⟨nm_sf2, fun _ h => absurd h List.not_mem_nil⟩⟩⟩
theorem nm_Sta_ok {cn idx a : Nat} (h : nm_Sta cn idx = some a) : ∃ q ∈ nm_St, q.1 = a ∧ (Cond.fieldLink (nm_Own cn) idx q.2.1 q.2.2.1 q.2.2.2 ∈ nm_Ts ∨ Cond.fieldLinkNest (nm_Own cn) idx q.2.1 q.2.2.1 q.2.2.2 nm_host ∈ nm_Ns) := by
  unfold nm_Sta at h
  obtain ⟨q, hq, he⟩ := Option.map_eq_some_iff.mp h
  have h1 := nm_SL_ok q (List.mem_of_find?_eq_some hq)
  have h2 := List.find?_some hq
  simp only [Bool.and_eq_true, beq_iff_eq] at h2
  obtain ⟨x, b, e⟩ := q
  obtain ⟨rfl, rfl⟩ := h2
  refine ⟨_, List.mem_cons_self, he, ?_⟩
  cases e with
  | true => exact Or.inl h1
  | false => exact Or.inr h1
def nm_Con_l : List (Nat × Nat × Int32) := [(11, 206, 999999)]
def nm_Con (cn idx : Nat) : Option Int32 := (nm_Con_l.find? (fun q => q.1 == cn && q.2.1 == idx)).map (fun q => q.2.2)
theorem nm_Con_0 : Jvm.Cond.constant (nm_Own 11) 206 (999999) ∈ nm_Ts := nm_t5 96 rfl rfl
theorem nm_Con_lok : ∀ q ∈ nm_Con_l, Jvm.Cond.constant (nm_Own q.1) q.2.1 q.2.2 ∈ nm_Ts := List.forall_mem_cons.mpr ⟨nm_Con_0, fun _ h => absurd h List.not_mem_nil⟩
theorem nm_Con_ok {cn idx : Nat} {v : Int32} (h : nm_Con cn idx = some v) : Jvm.Cond.constant (nm_Own cn) idx v ∈ nm_Ts := by
  unfold nm_Con at h
  obtain ⟨q, hq, he⟩ := Option.map_eq_some_iff.mp h
  have h1 := nm_Con_lok q (List.mem_of_find?_eq_some hq)
  have h2 := List.find?_some hq
  simp only [Bool.and_eq_true, beq_iff_eq] at h2
  obtain ⟨x, b, e⟩ := q
  obtain ⟨rfl, rfl⟩ := h2
  cases he
  exact h1
def nm_ConL_l : List (Nat × Nat × Int64) := [(12, 39, -1), (12, 43, 10), (12, 41, 5), (11, 69, 255), (11, 172, 5), (11, 161, 10), (13, 58, 4294967295)]
def nm_ConL (cn idx : Nat) : Option Int64 := (nm_ConL_l.find? (fun q => q.1 == cn && q.2.1 == idx)).map (fun q => q.2.2)
theorem nm_ConL_0 : Jvm.Cond.constantLong (nm_Own 12) 39 (-1) ∈ nm_Ts := nm_t3 166 rfl rfl
theorem nm_ConL_1 : Jvm.Cond.constantLong (nm_Own 12) 43 (10) ∈ nm_Ts := nm_t3 167 rfl rfl
theorem nm_ConL_2 : Jvm.Cond.constantLong (nm_Own 12) 41 (5) ∈ nm_Ts := nm_t3 170 rfl rfl
theorem nm_ConL_3 : Jvm.Cond.constantLong (nm_Own 11) 69 (255) ∈ nm_Ts := nm_t4 149 rfl rfl
theorem nm_ConL_4 : Jvm.Cond.constantLong (nm_Own 11) 172 (5) ∈ nm_Ts := nm_t5 51 rfl rfl
theorem nm_ConL_5 : Jvm.Cond.constantLong (nm_Own 11) 161 (10) ∈ nm_Ts := nm_t5 52 rfl rfl
theorem nm_ConL_6 : Jvm.Cond.constantLong (nm_Own 13) 58 (4294967295) ∈ nm_Ts := nm_t5 141 rfl rfl
theorem nm_ConL_lok : ∀ q ∈ nm_ConL_l, Jvm.Cond.constantLong (nm_Own q.1) q.2.1 q.2.2 ∈ nm_Ts := List.forall_mem_cons.mpr ⟨nm_ConL_0, List.forall_mem_cons.mpr ⟨nm_ConL_1, List.forall_mem_cons.mpr ⟨nm_ConL_2, List.forall_mem_cons.mpr ⟨nm_ConL_3, List.forall_mem_cons.mpr ⟨nm_ConL_4, List.forall_mem_cons.mpr ⟨nm_ConL_5, List.forall_mem_cons.mpr ⟨nm_ConL_6, fun _ h => absurd h List.not_mem_nil⟩⟩⟩⟩⟩⟩⟩
theorem nm_ConL_ok {cn idx : Nat} {v : Int64} (h : nm_ConL cn idx = some v) : Jvm.Cond.constantLong (nm_Own cn) idx v ∈ nm_Ts := by
  unfold nm_ConL at h
  obtain ⟨q, hq, he⟩ := Option.map_eq_some_iff.mp h
  have h1 := nm_ConL_lok q (List.mem_of_find?_eq_some hq)
  have h2 := List.find?_some hq
  simp only [Bool.and_eq_true, beq_iff_eq] at h2
  obtain ⟨x, b, e⟩ := q
  obtain ⟨rfl, rfl⟩ := h2
  cases he
  exact h1
end
section
/-! THE MACHINE OVER PURE CELLS. A world of cells 0 .. n-1 (abstract numbers), laid at real addresses by 'ad'; values hold abstract numbers. -/
abbrev mz_C : Type := (Nat × vp_A) ⊕ (Nat × List Value)
abbrev mz_H : Type := Nat → mz_C
abbrev mz_L : Type := List (Option Value)
abbrev mz_E : Type := Nat → Option (Nat × (Nat → Int32))
abbrev mz_G : Type := Launch × va_G × (Nat → ClassId)
/-- numbers from here on are cells outside of the world that nobody writes -/
def mz_e0 : Nat := 1000000000000
/-- what stands at a number that isn't a cell -/
def mz_d : mz_C := .inr (1000, [])
def mz_u (f : mz_H) (k : Nat) (v : mz_C) (j : Nat) : mz_C := if j = k then v else f j
theorem mz_u_s (f : mz_H) (k : Nat) (v : mz_C) : mz_u f k v k = v := by simp [mz_u]
theorem mz_u_n {f : mz_H} {k j : Nat} {v : mz_C} (h : j ≠ k) : mz_u f k v j = f j := by simp [mz_u, h]
def mz_v (ad : Nat → Nat) (v : Value) : Value := match v with
  | .ref k => .ref (ad k)
  | v => v
theorem mz_v_cat (ad : Nat → Nat) (v : Value) : (mz_v ad v).category = v.category := by cases v <;> rfl
def mz_a (ad : Nat → Nat) (a : vp_A) : vp_A := match a with
  | (n, .inr (.inr (.inr (.inr g)))) => (n, .inr (.inr (.inr (.inr (fun j => (g j).map ad)))))
  | a => a
def mz_e (tA : Nat → ClassId) (ad : Nat → Nat) (c : mz_C) : va_E := match c with
  | .inl q => .inl (tA q.1, mz_a ad q.2)
  | .inr o => .inr (o.1, o.2.map (mz_v ad))
def mz_w (tA : Nat → ClassId) (ad : Nat → Nat) (n : Nat) (f : mz_H) : va_W := (List.range n).map (fun k => (ad k, mz_e tA ad (f k)))
theorem mz_w_get {tA : Nat → ClassId} {ad : Nat → Nat} {n : Nat} {f : mz_H} {k : Nat} (h : k < n) : (mz_w tA ad n f)[k]? = some (ad k, mz_e tA ad (f k)) := by
  simp [mz_w, List.getElem?_map, List.getElem?_range h]
theorem mz_w_len {tA : Nat → ClassId} {ad : Nat → Nat} {n : Nat} {f : mz_H} : (mz_w tA ad n f).length = n := by simp [mz_w]
theorem mz_w_of {tA : Nat → ClassId} {ad : Nat → Nat} {n : Nat} {f : mz_H} {k : Nat} {q : Nat × va_E} (h : (mz_w tA ad n f)[k]? = some q) : k < n ∧ q = (ad k, mz_e tA ad (f k)) := by
  have hk : k < n := by
    have := (List.getElem?_eq_some_iff.mp h).1
    rwa [mz_w_len] at this
  refine ⟨hk, ?_⟩
  rw [mz_w_get hk] at h
  exact (Option.some.inj h).symm
theorem mz_w_set {tA : Nat → ClassId} {ad : Nat → Nat} {n : Nat} {f : mz_H} {k : Nat} (c : mz_C) : (mz_w tA ad n f).set k (ad k, mz_e tA ad c) = mz_w tA ad n (mz_u f k c) := by
  apply List.ext_getElem?
  intro i
  by_cases hi : i < n
  · rw [List.getElem?_set, mz_w_get hi, mz_w_get hi, mz_w_len]
    by_cases hk : k = i
    · subst hk
      simp [mz_u, hi]
    · rw [if_neg hk, mz_u_n (fun h => hk h.symm)]
  · rw [List.getElem?_eq_none (by rw [List.length_set, mz_w_len]; omega), List.getElem?_eq_none (by rw [mz_w_len]; omega)]
def mz_okV (n : Nat) (v : Value) : Prop := match v with
  | .ref k => k < n ∨ mz_e0 ≤ k
  | _ => True
def mz_okC (n : Nat) (c : mz_C) : Prop := match c with
  | .inr o => ∀ v ∈ o.2, mz_okV n v
  | .inl (_, _, .inr (.inr (.inr (.inr g)))) => ∀ j a, g j = some a → a < n
  | .inl _ => True
def mz_okS (n : Nat) (st : List Value) : Prop := ∀ v ∈ st, mz_okV n v
def mz_okL (n : Nat) (l : mz_L) : Prop := ∀ v, some v ∈ l → mz_okV n v
def mz_wf (n : Nat) (f : mz_H) : Prop := n ≤ mz_e0 ∧ (∀ k, mz_okC n (f k)) ∧ ∀ k, n ≤ k → f k = mz_d
theorem mz_okS_tl {n : Nat} {v : Value} {r : List Value} (h : mz_okS n (v :: r)) : mz_okS n r := fun w hw => h w (List.mem_cons_of_mem _ hw)
theorem mz_okS_hd {n : Nat} {v : Value} {r : List Value} (h : mz_okS n (v :: r)) : mz_okV n v := h v List.mem_cons_self
theorem mz_okS_c {n : Nat} {v : Value} {r : List Value} (h : mz_okV n v) (hr : mz_okS n r) : mz_okS n (v :: r) := fun w hw => by
  rcases List.mem_cons.mp hw with rfl | hw
  · exact h
  · exact hr w hw
theorem mz_okV_mono {n m : Nat} (h : n ≤ m) {v : Value} (hv : mz_okV n v) : mz_okV m v := by
  cases v <;> first | trivial | (rcases hv with hv | hv; exact Or.inl (Nat.lt_of_lt_of_le hv h); exact Or.inr hv)
theorem mz_v_eq {n : Nat} {ad ad' : Nat → Nat} (h : ∀ k, k < n ∨ mz_e0 ≤ k → ad' k = ad k) {v : Value} (hv : mz_okV n v) : mz_v ad' v = mz_v ad v := by
  cases v <;> first | rfl | (exact congrArg Value.ref (h _ hv))
theorem mz_e_eq {tA : Nat → ClassId} {n : Nat} {ad ad' : Nat → Nat} (h : ∀ k, k < n ∨ mz_e0 ≤ k → ad' k = ad k) {c : mz_C} (hc : mz_okC n c) : mz_e tA ad' c = mz_e tA ad c := by
  rcases c with ⟨t, m, g | g | g | g | g⟩ | ⟨ci, fs⟩
  · rfl
  · rfl
  · rfl
  · rfl
  · show Sum.inl _ = Sum.inl _
    congr 1
    show (tA t, (m, _)) = (tA t, (m, _))
    congr 6
    funext j
    cases hg : g j with
    | none => rfl
    | some a => exact congrArg some (h a (Or.inl (hc j a hg)))
  · show Sum.inr _ = Sum.inr _
    congr 2
    exact List.map_congr_left fun v hv => mz_v_eq h (hc v hv)
theorem mz_s_eq {n : Nat} {ad ad' : Nat → Nat} (h : ∀ k, k < n ∨ mz_e0 ≤ k → ad' k = ad k) {st : List Value} (hv : mz_okS n st) : st.map (mz_v ad') = st.map (mz_v ad) :=
  List.map_congr_left fun v hm => mz_v_eq h (hv v hm)
theorem mz_wf_lt {n : Nat} {f : mz_H} (h : mz_wf n f) {k : Nat} (hk : f k ≠ mz_d) : k < n := Nat.not_le.mp fun q => hk (h.2.2 k q)
theorem mz_wf_u {n : Nat} {f : mz_H} (h : mz_wf n f) {k : Nat} (hk : f k ≠ mz_d) {c : mz_C} (hc : mz_okC n c) : mz_wf n (mz_u f k c) := by
  have hlt := mz_wf_lt h hk
  refine ⟨h.1, fun j => ?_, fun j hj => ?_⟩
  · by_cases e : j = k
    · rw [e, mz_u_s]; exact hc
    · rw [mz_u_n e]; exact h.2.1 j
  · rw [mz_u_n (by omega)]; exact h.2.2 j hj
/-! the locals -/
def mz_pr (ad : Nat → Nat) (l : mz_L) : List (Nat × Value) := l.zipIdx.filterMap (fun q => q.1.map (fun v => (q.2, mz_v ad v)))
theorem mz_pr_mem {ad : Nat → Nat} {l : mz_L} {i : Nat} {w : Value} : (i, w) ∈ mz_pr ad l ↔ ∃ v, l[i]? = some (some v) ∧ w = mz_v ad v := by
  unfold mz_pr
  rw [List.mem_filterMap]
  constructor
  · rintro ⟨⟨o, j⟩, h1, h2⟩
    rw [List.mem_zipIdx_iff_getElem?] at h1
    cases o with
    | none => cases h2
    | some v =>
      simp only [Option.map_some, Option.some.injEq, Prod.mk.injEq] at h2
      obtain ⟨rfl, rfl⟩ := h2
      exact ⟨v, h1, rfl⟩
  · rintro ⟨v, h1, rfl⟩
    exact ⟨(some v, i), List.mem_zipIdx_iff_getElem?.mpr h1, rfl⟩
def mz_lv (ad : Nat → Nat) (ls : Array Slot) (nL : Nat) (l : mz_L) : Prop := lv_has ls nL (mz_pr ad l)
theorem mz_lv_at {ad : Nat → Nat} {ls : Array Slot} {nL : Nat} {l : mz_L} (h : mz_lv ad ls nL l) {i : Nat} {v : Value} (hi : l[i]? = some (some v)) : ls[i]? = some (.val (mz_v ad v)) :=
  h.2.2 (i, mz_v ad v) (mz_pr_mem.mpr ⟨v, hi, rfl⟩)
/-- a long that stands ahead of place i is gone when i is written -/
def mz_cl (l : mz_L) (i : Nat) : mz_L := match l[i - 1]? with
  | some (some v) => if v.category = 2 then l.set (i - 1) none else l
  | _ => l
theorem mz_cl_get {l : mz_L} {i j : Nat} {v : Value} (h : (mz_cl l i)[j]? = some (some v)) (hj : j ≠ i) : l[j]? = some (some v) ∧ ¬ (j + 1 = i ∧ v.category = 2) := by
  unfold mz_cl at h
  split at h
  · rename_i w hw
    split at h
    · rename_i hc
      rw [List.getElem?_set] at h
      by_cases e : i - 1 = j
      · rw [if_pos e] at h
        split at h <;> simp at h
      · rw [if_neg e] at h
        exact ⟨h, fun q => e (by omega)⟩
    · rename_i hc
      refine ⟨h, fun q => ?_⟩
      have e : i - 1 = j := by omega
      rw [e, h] at hw
      cases hw
      exact hc q.2
  · rename_i hno
    refine ⟨h, fun q => ?_⟩
    have e : i - 1 = j := by omega
    exact hno v (by rw [e]; exact h)
def mz_s1 (l : mz_L) (i : Nat) (v : Value) : mz_L := (mz_cl l i).set i (some v)
def mz_s2 (l : mz_L) (i : Nat) (v : Value) : mz_L := ((mz_cl l i).set i (some v)).set (i + 1) none
theorem mz_lv_s1 {ad : Nat → Nat} {ls ls' : Array Slot} {nL : Nat} {l : mz_L} {i : Nat} {v : Value} (h : lv_has ls' nL ((i, mz_v ad v) :: (mz_pr ad l).filter (fun q => !(q.1 == i) && !(q.1 + 1 == i && q.2.category == 2)))) : mz_lv ad ls' nL (mz_s1 l i v) := by
  refine ⟨h.1, h.2.1, fun q hq => ?_⟩
  obtain ⟨j, w⟩ := q
  obtain ⟨x, h1, rfl⟩ := mz_pr_mem.mp hq
  unfold mz_s1 at h1
  rw [List.getElem?_set] at h1
  by_cases e : i = j
  · rw [if_pos e] at h1
    subst e
    split at h1
    · cases h1
      exact h.2.2 (i, mz_v ad v) List.mem_cons_self
    · cases h1
  · rw [if_neg e] at h1
    obtain ⟨g1, g2⟩ := mz_cl_get h1 (fun q => e q.symm)
    refine h.2.2 (j, mz_v ad x) (List.mem_cons_of_mem _ (List.mem_filter.mpr ⟨mz_pr_mem.mpr ⟨x, g1, rfl⟩, ?_⟩))
    have e1 : (j == i) = false := by simp; exact fun q => e q.symm
    have e2 : (j + 1 == i && (mz_v ad x).category == 2) = false := by
      rw [mz_v_cat]
      simp
      intro q1 q2
      exact g2 ⟨q1, q2⟩
    simp only [e1, e2]
    rfl
theorem mz_lv_s2 {ad : Nat → Nat} {ls ls' : Array Slot} {nL : Nat} {l : mz_L} {i : Nat} {v : Value} (h : lv_has ls' nL ((i, mz_v ad v) :: (mz_pr ad l).filter (fun q => !(q.1 == i) && (!(q.1 == i + 1) && !(q.1 + 1 == i && q.2.category == 2))))) : mz_lv ad ls' nL (mz_s2 l i v) := by
  refine ⟨h.1, h.2.1, fun q hq => ?_⟩
  obtain ⟨j, w⟩ := q
  obtain ⟨x, h1, rfl⟩ := mz_pr_mem.mp hq
  unfold mz_s2 at h1
  rw [List.getElem?_set] at h1
  by_cases e0 : i + 1 = j
  · rw [if_pos e0] at h1
    split at h1 <;> simp at h1
  rw [if_neg e0, List.getElem?_set] at h1
  by_cases e : i = j
  · rw [if_pos e] at h1
    subst e
    split at h1
    · cases h1
      exact h.2.2 (i, mz_v ad v) List.mem_cons_self
    · cases h1
  · rw [if_neg e] at h1
    obtain ⟨g1, g2⟩ := mz_cl_get h1 (fun q => e q.symm)
    refine h.2.2 (j, mz_v ad x) (List.mem_cons_of_mem _ (List.mem_filter.mpr ⟨mz_pr_mem.mpr ⟨x, g1, rfl⟩, ?_⟩))
    have e1 : (j == i) = false := by simp; exact fun q => e q.symm
    have e3 : (j == i + 1) = false := by simp; exact fun q => e0 q.symm
    have e2 : (j + 1 == i && (mz_v ad x).category == 2) = false := by
      rw [mz_v_cat]
      simp
      intro q1 q2
      exact g2 ⟨q1, q2⟩
    simp only [e1, e2, e3]
    rfl
theorem mz_cl_mem {l : mz_L} {i : Nat} {v : Value} (h : some v ∈ mz_cl l i) : some v ∈ l := by
  unfold mz_cl at h
  split at h
  · split at h
    · rcases List.mem_or_eq_of_mem_set h with q | q
      · exact q
      · cases q
    · exact h
  · exact h
theorem mz_okL_s1 {n : Nat} {l : mz_L} {i : Nat} {v : Value} (h : mz_okL n l) (hv : mz_okV n v) : mz_okL n (mz_s1 l i v) := by
  intro w hw
  rcases List.mem_or_eq_of_mem_set hw with q | q
  · exact h w (mz_cl_mem q)
  · cases q; exact hv
theorem mz_okL_s2 {n : Nat} {l : mz_L} {i : Nat} {v : Value} (h : mz_okL n l) (hv : mz_okV n v) : mz_okL n (mz_s2 l i v) := by
  intro w hw
  rcases List.mem_or_eq_of_mem_set hw with q | q
  · rcases List.mem_or_eq_of_mem_set q with q | q
    · exact h w (mz_cl_mem q)
    · cases q; exact hv
  · cases q
theorem mz_okL_get {n : Nat} {l : mz_L} {i : Nat} {v : Value} (h : mz_okL n l) (hi : l[i]? = some (some v)) : mz_okV n v := h v (List.mem_of_getElem? hi)
theorem mz_lv_eq {n : Nat} {ad ad' : Nat → Nat} (h : ∀ k, k < n ∨ mz_e0 ≤ k → ad' k = ad k) {ls : Array Slot} {nL : Nat} {l : mz_L} (hl : mz_okL n l) (hv : mz_lv ad ls nL l) : mz_lv ad' ls nL l := by
  refine ⟨hv.1, hv.2.1, fun q hq => ?_⟩
  obtain ⟨j, w⟩ := q
  obtain ⟨x, h1, rfl⟩ := mz_pr_mem.mp hq
  show ls[j]? = some (.val (mz_v ad' x))
  rw [mz_v_eq h (mz_okL_get hl h1)]
  exact mz_lv_at hv h1
end
section
/-! the machine's context; the judgement mz_X: from this pure state the method comes to its end, and 'post' holds there -/
def mz_ty (tA : Nat → ClassId) : List (ClassId × FieldType) := (List.range nm_Ty.length).map (fun t => (tA t, nm_Ty.getD t .int))
theorem mz_ty_get {tA : Nat → ClassId} {t : Nat} {ty : FieldType} (h : nm_Ty[t]? = some ty) : (mz_ty tA)[t]? = some (tA t, ty) := by
  have hl : t < nm_Ty.length := (List.getElem?_eq_some_iff.mp h).1
  unfold mz_ty
  rw [List.getElem?_map, List.getElem?_range hl]
  simp [List.getD_eq_getElem?_getD, h]
def mz_xt (ad : Nat → Nat) (A : Nat → Prop) (X : mz_E) (s : State) (H : Heap) : Prop :=
  (∀ a N g, X a = some (N, g) → mz_e0 ≤ a ∧ va_T .int (ad a) N (fun j => .int (g j)) A s H) ∧ ∀ q ∈ nm_St, X q.1 ≠ none → va_Z q.2.1 q.2.2.1 q.2.2.2 (.ref (ad q.1)) A s H
def mz_ok (G : mz_G) (cn : Nat) (ini : Bool) (cc : ByteArray) (nL : Nat) (ret : Option FieldType) (A : Nat → Prop) (p : Program) (s : State) (m : MethodId) (args : Array Value) (meth : Method) (c : Code) : Prop :=
  p.tables.exec = Jvm.exec ∧ c.code = cc ∧ c.maxLocals = nL ∧ meth.sig.returnType = ret ∧ s.vm.findClass (nm_Own cn) = some m.cls ∧ (ini = true → meth.name = "<init>") ∧ meth.locks = false ∧ (∀ w ∈ nm_Ts, w.before args s = true) ∧ (∀ w ∈ nm_Ns, va_Nw w s) ∧ va_K G.2.1 nm_Cl (mz_ty G.2.2) s ∧ ∀ q, s.heap.size ≤ q → A q
def mz_rep (G : mz_G) (X : mz_E) (A : Nat → Prop) (s : State) (ad ad0 : Nat → Nat) (n0 n : Nat) (f : mz_H) (H : Heap) (locs : List Loc) : Prop :=
  va_P G.2.1 nm_Cl (mz_w G.2.2 ad n f) H ∧ va_D A (mz_w G.2.2 ad n f) ∧ va_S A s.heap H locs ∧ mz_wf n f ∧ n0 ≤ n ∧ (∀ k, k < n0 ∨ mz_e0 ≤ k → ad k = ad0 k) ∧ mz_xt ad A X s s.heap
def mz_q (G : mz_G) (A : Nat → Prop) (ad0 : Nat → Nat) (n0 : Nat) (post : Option Value → Nat → mz_H → Prop) : Array Value → State → Outcome → State → Prop := fun _ s oc t =>
  ∃ (v : Option Value) (ad : Nat → Nat) (n : Nat) (f : mz_H), oc = .returned (v.map (mz_v ad)) ∧ post v n f ∧ va_P G.2.1 nm_Cl (mz_w G.2.2 ad n f) t.heap ∧ va_D A (mz_w G.2.2 ad n f) ∧ va_F A s t ∧ mz_wf n f ∧ n0 ≤ n ∧ (∀ k, k < n0 ∨ mz_e0 ≤ k → ad k = ad0 k) ∧ ∀ x, v = some x → mz_okV n x
/-- the end by a throw: of an exception of the class ec, the cells as thr says -/
def mz_th (G : mz_G) (rm : Room) (below : List Frame) (A : Nat → Prop) (ad0 : Nat → Nat) (n0 : Nat) (thr : String → Nat → mz_H → Prop) (s : State) (t : State) : Prop :=
  ∃ (a : Addr) (ec : String) (cell : Cell) (ad : Nat → Nat) (n : Nat) (f : mz_H) (L : List Loc), t.status = .running ∧ Ended t below (.threw a) ∧ thr ec n f ∧ t.heap[a]? = some cell ∧ cell.vm.isStatics = false ∧ cell.vm ≠ .unknown ∧ s.vm.findClass ec = some cell.cls ∧ va_P G.2.1 nm_Cl (mz_w G.2.2 ad n f) t.heap ∧ va_D A (mz_w G.2.2 ad n f) ∧ va_F A s t ∧ mz_wf n f ∧ n0 ≤ n ∧ (∀ k, k < n0 ∨ mz_e0 ≤ k → ad k = ad0 k) ∧ s.WarmedH t.vm ∧ s.sameButNew ({ t with vm := s.vm } : State) L rm.cells rm.slots ∧ ∀ q ∈ L, A q.base
def mz_Z (G : mz_G) (rm : Room) (below : List Frame) (A : Nat → Prop) (ad0 : Nat → Nat) (n0 : Nat) (post : Option Value → Nat → mz_H → Prop) (thr : String → Nat → mz_H → Prop) (args : Array Value) (s : State) : State → Prop := fun t =>
  MQ below (mz_q G A ad0 n0 post) args s rm.cells rm.slots A t ∨ mz_th G rm below A ad0 n0 thr s t
theorem mz_wor {p : Program} {l : Launch} {e : Env} {R : Room} {s : State} {m : MethodId} {args : Array Value} {below : List Frame} {meth : Method} {c : Code} {H : Heap} {locs : List Loc} {cells slots : Nat} {Q Q' : State → Prop} {g : JFrame} (hQ : ∀ t, Q t → Q' t) (h : W p l e R s m args below meth c H locs cells slots Q g) : W p l e R s m args below meth c H locs cells slots Q' g := by
  intro T hT X
  obtain ⟨t, a, b⟩ := h T hT X
  exact ⟨t, a, hQ t b⟩
def mz_X (G : mz_G) (X : mz_E) (cn : Nat) (ini : Bool) (cc : ByteArray) (nL : Nat) (ret : Option FieldType) (rm : Room) (post : Option Value → Nat → mz_H → Prop) (thr : String → Nat → mz_H → Prop) (pc : Nat) (l : mz_L) (st : List Value) (k1 k2 n : Nat) (f : mz_H) : Prop :=
  k1 ≤ rm.cells → k2 ≤ rm.slots → mz_okL n l → mz_okS n st → ∀ (p : Program) (e : Env) (s : State) (m : MethodId) (args : Array Value) (below : List Frame) (meth : Method) (c : Code) (A : Nat → Prop) (H : Heap) (locs : List Loc) (ls : Array Slot) (ad ad0 : Nat → Nat) (n0 : Nat),
    mz_ok G cn ini cc nL ret A p s m args meth c → mz_rep G X A s ad ad0 n0 n f H locs → mz_lv ad ls nL l →
    W p G.1 e rm s m args below meth c H locs k1 k2 (mz_Z G rm below A ad0 n0 post thr args s) (F0 m pc ls (st.map (mz_v ad)))
/-- a jump's goal -/
def mz_t (pc : Nat) (off : Int) : Nat := ((pc : Int) + off).toNat
theorem mz_t_ok {pc : Nat} {off : Int} (h : 0 ≤ (pc : Int) + off) : (pc : Int) + off = (mz_t pc off : Int) := (Int.toNat_of_nonneg h).symm
def mz_fit (ty : FieldType) (v : Value) : Prop := narrow ty v = v ∧ fits ty v = true
theorem mz_fit_v {ty : FieldType} {v : Value} (ad : Nat → Nat) (h : mz_fit ty v) : mz_fit ty (mz_v ad v) := by
  cases v with
  | ref a =>
    obtain ⟨h1, h2⟩ := h
    cases ty <;> first | exact ⟨rfl, h2⟩ | exact ⟨rfl, rfl⟩ | (simp [fits] at h2)
  | _ => exact h
section MZ
variable {G : mz_G} {X : mz_E} {cn : Nat} {ini : Bool} {cc : ByteArray} {nL : Nat} {ret : Option FieldType} {rm : Room} {post : Option Value → Nat → mz_H → Prop} {thr : String → Nat → mz_H → Prop} {pc : Nat} {l : mz_L} {r : List Value} {k1 k2 n : Nat} {f : mz_H}
theorem mz_iconst {i : Int} (hd : decode cc pc = .ok (.iconst i, 1))  (h : mz_X G X cn ini cc nL ret rm post thr (pc + 1) (l) (.int (Int32.ofInt i) :: r) k1 k2 n (f)) : mz_X G X cn ini cc nL ret rm post thr (pc) (l) (r) k1 k2 n (f) := by
  intro hk1 hk2 hol hos p e s m args below meth c A H locs ls ad ad0 n0 ok rep hl
  obtain ⟨hx, hb, hml, hr, hown, hin, hlocks, hts, hns, hK, hA⟩ := id ok
  exact lv_iconst hx hb hd rfl (h hk1 hk2 hol (mz_okS_c trivial hos) p e s m args below meth c A H locs ls ad ad0 n0 ok rep hl)
theorem mz_bipush {i : Int} (hd : decode cc pc = .ok (.bipush i, 2))  (h : mz_X G X cn ini cc nL ret rm post thr (pc + 2) (l) (.int (Int8.ofInt i).toInt32 :: r) k1 k2 n (f)) : mz_X G X cn ini cc nL ret rm post thr (pc) (l) (r) k1 k2 n (f) := by
  intro hk1 hk2 hol hos p e s m args below meth c A H locs ls ad ad0 n0 ok rep hl
  obtain ⟨hx, hb, hml, hr, hown, hin, hlocks, hts, hns, hK, hA⟩ := id ok
  exact lv_bipush hx hb hd rfl (h hk1 hk2 hol (mz_okS_c trivial hos) p e s m args below meth c A H locs ls ad ad0 n0 ok rep hl)
theorem mz_sipush {i : Int} (hd : decode cc pc = .ok (.sipush i, 3))  (h : mz_X G X cn ini cc nL ret rm post thr (pc + 3) (l) (.int (Int16.ofInt i).toInt32 :: r) k1 k2 n (f)) : mz_X G X cn ini cc nL ret rm post thr (pc) (l) (r) k1 k2 n (f) := by
  intro hk1 hk2 hol hos p e s m args below meth c A H locs ls ad ad0 n0 ok rep hl
  obtain ⟨hx, hb, hml, hr, hown, hin, hlocks, hts, hns, hK, hA⟩ := id ok
  exact lv_sipush hx hb hd rfl (h hk1 hk2 hol (mz_okS_c trivial hos) p e s m args below meth c A H locs ls ad ad0 n0 ok rep hl)
theorem mz_lconst {i : Fin 2} (hd : decode cc pc = .ok (.lconst i, 1))  (h : mz_X G X cn ini cc nL ret rm post thr (pc + 1) (l) (.long (Int64.ofNat (i : Nat)) :: r) k1 k2 n (f)) : mz_X G X cn ini cc nL ret rm post thr (pc) (l) (r) k1 k2 n (f) := by
  intro hk1 hk2 hol hos p e s m args below meth c A H locs ls ad ad0 n0 ok rep hl
  obtain ⟨hx, hb, hml, hr, hown, hin, hlocks, hts, hns, hK, hA⟩ := id ok
  exact lv_lconst hx hb hd rfl (h hk1 hk2 hol (mz_okS_c trivial hos) p e s m args below meth c A H locs ls ad ad0 n0 ok rep hl)
theorem mz_null  (hd : decode cc pc = .ok (.aconst_null, 1))  (h : mz_X G X cn ini cc nL ret rm post thr (pc + 1) (l) (.null :: r) k1 k2 n (f)) : mz_X G X cn ini cc nL ret rm post thr (pc) (l) (r) k1 k2 n (f) := by
  intro hk1 hk2 hol hos p e s m args below meth c A H locs ls ad ad0 n0 ok rep hl
  obtain ⟨hx, hb, hml, hr, hown, hin, hlocks, hts, hns, hK, hA⟩ := id ok
  exact lv_null hx hb hd (h hk1 hk2 hol (mz_okS_c trivial hos) p e s m args below meth c A H locs ls ad ad0 n0 ok rep hl)
theorem mz_iadd {x y : Int32} (hd : decode cc pc = .ok (.iadd, 1))  (h : mz_X G X cn ini cc nL ret rm post thr (pc + 1) (l) (.int (x + y) :: r) k1 k2 n (f)) : mz_X G X cn ini cc nL ret rm post thr (pc) (l) (.int y :: .int x :: r) k1 k2 n (f) := by
  intro hk1 hk2 hol hos p e s m args below meth c A H locs ls ad ad0 n0 ok rep hl
  obtain ⟨hx, hb, hml, hr, hown, hin, hlocks, hts, hns, hK, hA⟩ := id ok
  exact lv_iadd hx hb hd (h hk1 hk2 hol (mz_okS_c trivial (mz_okS_tl (mz_okS_tl hos))) p e s m args below meth c A H locs ls ad ad0 n0 ok rep hl)
theorem mz_isub {x y : Int32} (hd : decode cc pc = .ok (.isub, 1))  (h : mz_X G X cn ini cc nL ret rm post thr (pc + 1) (l) (.int (x - y) :: r) k1 k2 n (f)) : mz_X G X cn ini cc nL ret rm post thr (pc) (l) (.int y :: .int x :: r) k1 k2 n (f) := by
  intro hk1 hk2 hol hos p e s m args below meth c A H locs ls ad ad0 n0 ok rep hl
  obtain ⟨hx, hb, hml, hr, hown, hin, hlocks, hts, hns, hK, hA⟩ := id ok
  exact lv_isub hx hb hd (h hk1 hk2 hol (mz_okS_c trivial (mz_okS_tl (mz_okS_tl hos))) p e s m args below meth c A H locs ls ad ad0 n0 ok rep hl)
theorem mz_imul {x y : Int32} (hd : decode cc pc = .ok (.imul, 1))  (h : mz_X G X cn ini cc nL ret rm post thr (pc + 1) (l) (.int (x * y) :: r) k1 k2 n (f)) : mz_X G X cn ini cc nL ret rm post thr (pc) (l) (.int y :: .int x :: r) k1 k2 n (f) := by
  intro hk1 hk2 hol hos p e s m args below meth c A H locs ls ad ad0 n0 ok rep hl
  obtain ⟨hx, hb, hml, hr, hown, hin, hlocks, hts, hns, hK, hA⟩ := id ok
  exact lv_imul hx hb hd (h hk1 hk2 hol (mz_okS_c trivial (mz_okS_tl (mz_okS_tl hos))) p e s m args below meth c A H locs ls ad ad0 n0 ok rep hl)
theorem mz_iand {x y : Int32} (hd : decode cc pc = .ok (.iand, 1))  (h : mz_X G X cn ini cc nL ret rm post thr (pc + 1) (l) (.int (x &&& y) :: r) k1 k2 n (f)) : mz_X G X cn ini cc nL ret rm post thr (pc) (l) (.int y :: .int x :: r) k1 k2 n (f) := by
  intro hk1 hk2 hol hos p e s m args below meth c A H locs ls ad ad0 n0 ok rep hl
  obtain ⟨hx, hb, hml, hr, hown, hin, hlocks, hts, hns, hK, hA⟩ := id ok
  exact lv_iand hx hb hd (h hk1 hk2 hol (mz_okS_c trivial (mz_okS_tl (mz_okS_tl hos))) p e s m args below meth c A H locs ls ad ad0 n0 ok rep hl)
theorem mz_ior {x y : Int32} (hd : decode cc pc = .ok (.ior, 1))  (h : mz_X G X cn ini cc nL ret rm post thr (pc + 1) (l) (.int (x ||| y) :: r) k1 k2 n (f)) : mz_X G X cn ini cc nL ret rm post thr (pc) (l) (.int y :: .int x :: r) k1 k2 n (f) := by
  intro hk1 hk2 hol hos p e s m args below meth c A H locs ls ad ad0 n0 ok rep hl
  obtain ⟨hx, hb, hml, hr, hown, hin, hlocks, hts, hns, hK, hA⟩ := id ok
  exact lv_ior hx hb hd (h hk1 hk2 hol (mz_okS_c trivial (mz_okS_tl (mz_okS_tl hos))) p e s m args below meth c A H locs ls ad ad0 n0 ok rep hl)
theorem mz_ixor {x y : Int32} (hd : decode cc pc = .ok (.ixor, 1))  (h : mz_X G X cn ini cc nL ret rm post thr (pc + 1) (l) (.int (x ^^^ y) :: r) k1 k2 n (f)) : mz_X G X cn ini cc nL ret rm post thr (pc) (l) (.int y :: .int x :: r) k1 k2 n (f) := by
  intro hk1 hk2 hol hos p e s m args below meth c A H locs ls ad ad0 n0 ok rep hl
  obtain ⟨hx, hb, hml, hr, hown, hin, hlocks, hts, hns, hK, hA⟩ := id ok
  exact lv_ixor hx hb hd (h hk1 hk2 hol (mz_okS_c trivial (mz_okS_tl (mz_okS_tl hos))) p e s m args below meth c A H locs ls ad ad0 n0 ok rep hl)
theorem mz_ishl {x y : Int32} (hd : decode cc pc = .ok (.ishl, 1))  (h : mz_X G X cn ini cc nL ret rm post thr (pc + 1) (l) (.int (x <<< (y &&& 31)) :: r) k1 k2 n (f)) : mz_X G X cn ini cc nL ret rm post thr (pc) (l) (.int y :: .int x :: r) k1 k2 n (f) := by
  intro hk1 hk2 hol hos p e s m args below meth c A H locs ls ad ad0 n0 ok rep hl
  obtain ⟨hx, hb, hml, hr, hown, hin, hlocks, hts, hns, hK, hA⟩ := id ok
  exact lv_ishl hx hb hd (h hk1 hk2 hol (mz_okS_c trivial (mz_okS_tl (mz_okS_tl hos))) p e s m args below meth c A H locs ls ad ad0 n0 ok rep hl)
theorem mz_ishr {x y : Int32} (hd : decode cc pc = .ok (.ishr, 1))  (h : mz_X G X cn ini cc nL ret rm post thr (pc + 1) (l) (.int (x >>> (y &&& 31)) :: r) k1 k2 n (f)) : mz_X G X cn ini cc nL ret rm post thr (pc) (l) (.int y :: .int x :: r) k1 k2 n (f) := by
  intro hk1 hk2 hol hos p e s m args below meth c A H locs ls ad ad0 n0 ok rep hl
  obtain ⟨hx, hb, hml, hr, hown, hin, hlocks, hts, hns, hK, hA⟩ := id ok
  exact lv_ishr hx hb hd (h hk1 hk2 hol (mz_okS_c trivial (mz_okS_tl (mz_okS_tl hos))) p e s m args below meth c A H locs ls ad ad0 n0 ok rep hl)
theorem mz_idiv {x y : Int32} (hd : decode cc pc = .ok (.idiv, 1)) (hs : ¬ y = 0) (h : mz_X G X cn ini cc nL ret rm post thr (pc + 1) (l) (.int (x / y) :: r) k1 k2 n (f)) : mz_X G X cn ini cc nL ret rm post thr (pc) (l) (.int y :: .int x :: r) k1 k2 n (f) := by
  intro hk1 hk2 hol hos p e s m args below meth c A H locs ls ad ad0 n0 ok rep hl
  obtain ⟨hx, hb, hml, hr, hown, hin, hlocks, hts, hns, hK, hA⟩ := id ok
  exact lv_idiv hx hb hd hs (h hk1 hk2 hol (mz_okS_c trivial (mz_okS_tl (mz_okS_tl hos))) p e s m args below meth c A H locs ls ad ad0 n0 ok rep hl)
theorem mz_irem {x y : Int32} (hd : decode cc pc = .ok (.irem, 1)) (hs : ¬ y = 0) (h : mz_X G X cn ini cc nL ret rm post thr (pc + 1) (l) (.int (x - x / y * y) :: r) k1 k2 n (f)) : mz_X G X cn ini cc nL ret rm post thr (pc) (l) (.int y :: .int x :: r) k1 k2 n (f) := by
  intro hk1 hk2 hol hos p e s m args below meth c A H locs ls ad ad0 n0 ok rep hl
  obtain ⟨hx, hb, hml, hr, hown, hin, hlocks, hts, hns, hK, hA⟩ := id ok
  exact lv_irem hx hb hd hs (h hk1 hk2 hol (mz_okS_c trivial (mz_okS_tl (mz_okS_tl hos))) p e s m args below meth c A H locs ls ad ad0 n0 ok rep hl)
theorem mz_ladd {x y : Int64} (hd : decode cc pc = .ok (.ladd, 1))  (h : mz_X G X cn ini cc nL ret rm post thr (pc + 1) (l) (.long (x + y) :: r) k1 k2 n (f)) : mz_X G X cn ini cc nL ret rm post thr (pc) (l) (.long y :: .long x :: r) k1 k2 n (f) := by
  intro hk1 hk2 hol hos p e s m args below meth c A H locs ls ad ad0 n0 ok rep hl
  obtain ⟨hx, hb, hml, hr, hown, hin, hlocks, hts, hns, hK, hA⟩ := id ok
  exact lv_ladd hx hb hd (h hk1 hk2 hol (mz_okS_c trivial (mz_okS_tl (mz_okS_tl hos))) p e s m args below meth c A H locs ls ad ad0 n0 ok rep hl)
theorem mz_lsub {x y : Int64} (hd : decode cc pc = .ok (.lsub, 1))  (h : mz_X G X cn ini cc nL ret rm post thr (pc + 1) (l) (.long (x - y) :: r) k1 k2 n (f)) : mz_X G X cn ini cc nL ret rm post thr (pc) (l) (.long y :: .long x :: r) k1 k2 n (f) := by
  intro hk1 hk2 hol hos p e s m args below meth c A H locs ls ad ad0 n0 ok rep hl
  obtain ⟨hx, hb, hml, hr, hown, hin, hlocks, hts, hns, hK, hA⟩ := id ok
  exact lv_lsub hx hb hd (h hk1 hk2 hol (mz_okS_c trivial (mz_okS_tl (mz_okS_tl hos))) p e s m args below meth c A H locs ls ad ad0 n0 ok rep hl)
theorem mz_lmul {x y : Int64} (hd : decode cc pc = .ok (.lmul, 1))  (h : mz_X G X cn ini cc nL ret rm post thr (pc + 1) (l) (.long (x * y) :: r) k1 k2 n (f)) : mz_X G X cn ini cc nL ret rm post thr (pc) (l) (.long y :: .long x :: r) k1 k2 n (f) := by
  intro hk1 hk2 hol hos p e s m args below meth c A H locs ls ad ad0 n0 ok rep hl
  obtain ⟨hx, hb, hml, hr, hown, hin, hlocks, hts, hns, hK, hA⟩ := id ok
  exact lv_lmul hx hb hd (h hk1 hk2 hol (mz_okS_c trivial (mz_okS_tl (mz_okS_tl hos))) p e s m args below meth c A H locs ls ad ad0 n0 ok rep hl)
theorem mz_land {x y : Int64} (hd : decode cc pc = .ok (.land, 1))  (h : mz_X G X cn ini cc nL ret rm post thr (pc + 1) (l) (.long (x &&& y) :: r) k1 k2 n (f)) : mz_X G X cn ini cc nL ret rm post thr (pc) (l) (.long y :: .long x :: r) k1 k2 n (f) := by
  intro hk1 hk2 hol hos p e s m args below meth c A H locs ls ad ad0 n0 ok rep hl
  obtain ⟨hx, hb, hml, hr, hown, hin, hlocks, hts, hns, hK, hA⟩ := id ok
  exact lv_land hx hb hd (h hk1 hk2 hol (mz_okS_c trivial (mz_okS_tl (mz_okS_tl hos))) p e s m args below meth c A H locs ls ad ad0 n0 ok rep hl)
theorem mz_lor {x y : Int64} (hd : decode cc pc = .ok (.lor, 1))  (h : mz_X G X cn ini cc nL ret rm post thr (pc + 1) (l) (.long (x ||| y) :: r) k1 k2 n (f)) : mz_X G X cn ini cc nL ret rm post thr (pc) (l) (.long y :: .long x :: r) k1 k2 n (f) := by
  intro hk1 hk2 hol hos p e s m args below meth c A H locs ls ad ad0 n0 ok rep hl
  obtain ⟨hx, hb, hml, hr, hown, hin, hlocks, hts, hns, hK, hA⟩ := id ok
  exact lv_lor hx hb hd (h hk1 hk2 hol (mz_okS_c trivial (mz_okS_tl (mz_okS_tl hos))) p e s m args below meth c A H locs ls ad ad0 n0 ok rep hl)
theorem mz_lxor {x y : Int64} (hd : decode cc pc = .ok (.lxor, 1))  (h : mz_X G X cn ini cc nL ret rm post thr (pc + 1) (l) (.long (x ^^^ y) :: r) k1 k2 n (f)) : mz_X G X cn ini cc nL ret rm post thr (pc) (l) (.long y :: .long x :: r) k1 k2 n (f) := by
  intro hk1 hk2 hol hos p e s m args below meth c A H locs ls ad ad0 n0 ok rep hl
  obtain ⟨hx, hb, hml, hr, hown, hin, hlocks, hts, hns, hK, hA⟩ := id ok
  exact lv_lxor hx hb hd (h hk1 hk2 hol (mz_okS_c trivial (mz_okS_tl (mz_okS_tl hos))) p e s m args below meth c A H locs ls ad ad0 n0 ok rep hl)
theorem mz_ldiv {x y : Int64} (hd : decode cc pc = .ok (.ldiv, 1)) (hs : ¬ y = 0) (h : mz_X G X cn ini cc nL ret rm post thr (pc + 1) (l) (.long (x / y) :: r) k1 k2 n (f)) : mz_X G X cn ini cc nL ret rm post thr (pc) (l) (.long y :: .long x :: r) k1 k2 n (f) := by
  intro hk1 hk2 hol hos p e s m args below meth c A H locs ls ad ad0 n0 ok rep hl
  obtain ⟨hx, hb, hml, hr, hown, hin, hlocks, hts, hns, hK, hA⟩ := id ok
  exact lv_ldiv hx hb hd hs (h hk1 hk2 hol (mz_okS_c trivial (mz_okS_tl (mz_okS_tl hos))) p e s m args below meth c A H locs ls ad ad0 n0 ok rep hl)
theorem mz_lrem {x y : Int64} (hd : decode cc pc = .ok (.lrem, 1)) (hs : ¬ y = 0) (h : mz_X G X cn ini cc nL ret rm post thr (pc + 1) (l) (.long (x - x / y * y) :: r) k1 k2 n (f)) : mz_X G X cn ini cc nL ret rm post thr (pc) (l) (.long y :: .long x :: r) k1 k2 n (f) := by
  intro hk1 hk2 hol hos p e s m args below meth c A H locs ls ad ad0 n0 ok rep hl
  obtain ⟨hx, hb, hml, hr, hown, hin, hlocks, hts, hns, hK, hA⟩ := id ok
  exact lv_lrem hx hb hd hs (h hk1 hk2 hol (mz_okS_c trivial (mz_okS_tl (mz_okS_tl hos))) p e s m args below meth c A H locs ls ad ad0 n0 ok rep hl)
theorem mz_lcmp {x y : Int64} (hd : decode cc pc = .ok (.lcmp, 1))  (h : mz_X G X cn ini cc nL ret rm post thr (pc + 1) (l) (.int (lg_cmp x y) :: r) k1 k2 n (f)) : mz_X G X cn ini cc nL ret rm post thr (pc) (l) (.long y :: .long x :: r) k1 k2 n (f) := by
  intro hk1 hk2 hol hos p e s m args below meth c A H locs ls ad ad0 n0 ok rep hl
  obtain ⟨hx, hb, hml, hr, hown, hin, hlocks, hts, hns, hK, hA⟩ := id ok
  exact W.lcmp hx hb hd (h hk1 hk2 hol (mz_okS_c trivial (mz_okS_tl (mz_okS_tl hos))) p e s m args below meth c A H locs ls ad ad0 n0 ok rep hl)
theorem mz_lshl {x : Int64} {y : Int32} (hd : decode cc pc = .ok (.lshl, 1))  (h : mz_X G X cn ini cc nL ret rm post thr (pc + 1) (l) (.long (x <<< (y.toInt64 &&& 63)) :: r) k1 k2 n (f)) : mz_X G X cn ini cc nL ret rm post thr (pc) (l) (.int y :: .long x :: r) k1 k2 n (f) := by
  intro hk1 hk2 hol hos p e s m args below meth c A H locs ls ad ad0 n0 ok rep hl
  obtain ⟨hx, hb, hml, hr, hown, hin, hlocks, hts, hns, hK, hA⟩ := id ok
  exact lv_lshl hx hb hd rfl (h hk1 hk2 hol (mz_okS_c trivial (mz_okS_tl (mz_okS_tl hos))) p e s m args below meth c A H locs ls ad ad0 n0 ok rep hl)
theorem mz_lshr {x : Int64} {y : Int32} (hd : decode cc pc = .ok (.lshr, 1))  (h : mz_X G X cn ini cc nL ret rm post thr (pc + 1) (l) (.long (x >>> (y.toInt64 &&& 63)) :: r) k1 k2 n (f)) : mz_X G X cn ini cc nL ret rm post thr (pc) (l) (.int y :: .long x :: r) k1 k2 n (f) := by
  intro hk1 hk2 hol hos p e s m args below meth c A H locs ls ad ad0 n0 ok rep hl
  obtain ⟨hx, hb, hml, hr, hown, hin, hlocks, hts, hns, hK, hA⟩ := id ok
  exact lv_lshr hx hb hd rfl (h hk1 hk2 hol (mz_okS_c trivial (mz_okS_tl (mz_okS_tl hos))) p e s m args below meth c A H locs ls ad ad0 n0 ok rep hl)
theorem mz_lushr {x : Int64} {y : Int32} (hd : decode cc pc = .ok (.lushr, 1))  (h : mz_X G X cn ini cc nL ret rm post thr (pc + 1) (l) (.long (x.toUInt64 >>> (y.toInt64.toUInt64 &&& Int64.toUInt64 63)).toInt64 :: r) k1 k2 n (f)) : mz_X G X cn ini cc nL ret rm post thr (pc) (l) (.int y :: .long x :: r) k1 k2 n (f) := by
  intro hk1 hk2 hol hos p e s m args below meth c A H locs ls ad ad0 n0 ok rep hl
  obtain ⟨hx, hb, hml, hr, hown, hin, hlocks, hts, hns, hK, hA⟩ := id ok
  exact lv_lushr hx hb hd rfl (h hk1 hk2 hol (mz_okS_c trivial (mz_okS_tl (mz_okS_tl hos))) p e s m args below meth c A H locs ls ad ad0 n0 ok rep hl)
theorem mz_ineg {x : Int32} (hd : decode cc pc = .ok (.ineg, 1))  (h : mz_X G X cn ini cc nL ret rm post thr (pc + 1) (l) (.int (-x) :: r) k1 k2 n (f)) : mz_X G X cn ini cc nL ret rm post thr (pc) (l) (.int x :: r) k1 k2 n (f) := by
  intro hk1 hk2 hol hos p e s m args below meth c A H locs ls ad ad0 n0 ok rep hl
  obtain ⟨hx, hb, hml, hr, hown, hin, hlocks, hts, hns, hK, hA⟩ := id ok
  exact lv_ineg hx hb hd (h hk1 hk2 hol (mz_okS_c trivial (mz_okS_tl hos)) p e s m args below meth c A H locs ls ad ad0 n0 ok rep hl)
theorem mz_i2l {x : Int32} (hd : decode cc pc = .ok (.i2l, 1))  (h : mz_X G X cn ini cc nL ret rm post thr (pc + 1) (l) (.long x.toInt64 :: r) k1 k2 n (f)) : mz_X G X cn ini cc nL ret rm post thr (pc) (l) (.int x :: r) k1 k2 n (f) := by
  intro hk1 hk2 hol hos p e s m args below meth c A H locs ls ad ad0 n0 ok rep hl
  obtain ⟨hx, hb, hml, hr, hown, hin, hlocks, hts, hns, hK, hA⟩ := id ok
  exact lv_i2l hx hb hd rfl (h hk1 hk2 hol (mz_okS_c trivial (mz_okS_tl hos)) p e s m args below meth c A H locs ls ad ad0 n0 ok rep hl)
theorem mz_l2i {x : Int64} (hd : decode cc pc = .ok (.l2i, 1))  (h : mz_X G X cn ini cc nL ret rm post thr (pc + 1) (l) (.int x.toInt32 :: r) k1 k2 n (f)) : mz_X G X cn ini cc nL ret rm post thr (pc) (l) (.long x :: r) k1 k2 n (f) := by
  intro hk1 hk2 hol hos p e s m args below meth c A H locs ls ad ad0 n0 ok rep hl
  obtain ⟨hx, hb, hml, hr, hown, hin, hlocks, hts, hns, hK, hA⟩ := id ok
  exact lv_l2i hx hb hd rfl (h hk1 hk2 hol (mz_okS_c trivial (mz_okS_tl hos)) p e s m args below meth c A H locs ls ad ad0 n0 ok rep hl)
theorem mz_i2b {x : Int32} (hd : decode cc pc = .ok (.i2b, 1))  (h : mz_X G X cn ini cc nL ret rm post thr (pc + 1) (l) (.int x.toInt8.toInt32 :: r) k1 k2 n (f)) : mz_X G X cn ini cc nL ret rm post thr (pc) (l) (.int x :: r) k1 k2 n (f) := by
  intro hk1 hk2 hol hos p e s m args below meth c A H locs ls ad ad0 n0 ok rep hl
  obtain ⟨hx, hb, hml, hr, hown, hin, hlocks, hts, hns, hK, hA⟩ := id ok
  exact lv_i2b hx hb hd rfl (h hk1 hk2 hol (mz_okS_c trivial (mz_okS_tl hos)) p e s m args below meth c A H locs ls ad ad0 n0 ok rep hl)
theorem mz_i2s {x : Int32} (hd : decode cc pc = .ok (.i2s, 1))  (h : mz_X G X cn ini cc nL ret rm post thr (pc + 1) (l) (.int x.toInt16.toInt32 :: r) k1 k2 n (f)) : mz_X G X cn ini cc nL ret rm post thr (pc) (l) (.int x :: r) k1 k2 n (f) := by
  intro hk1 hk2 hol hos p e s m args below meth c A H locs ls ad ad0 n0 ok rep hl
  obtain ⟨hx, hb, hml, hr, hown, hin, hlocks, hts, hns, hK, hA⟩ := id ok
  exact lv_i2s hx hb hd rfl (h hk1 hk2 hol (mz_okS_c trivial (mz_okS_tl hos)) p e s m args below meth c A H locs ls ad ad0 n0 ok rep hl)
theorem mz_dup {v : Value} (hd : decode cc pc = .ok (.dup, 1)) (hs : v.category = 1) (h : mz_X G X cn ini cc nL ret rm post thr (pc + 1) (l) (v :: v :: r) k1 k2 n (f)) : mz_X G X cn ini cc nL ret rm post thr (pc) (l) (v :: r) k1 k2 n (f) := by
  intro hk1 hk2 hol hos p e s m args below meth c A H locs ls ad ad0 n0 ok rep hl
  obtain ⟨hx, hb, hml, hr, hown, hin, hlocks, hts, hns, hK, hA⟩ := id ok
  exact lv_dup hx hb hd (by rw [mz_v_cat]; exact hs) (h hk1 hk2 hol (mz_okS_c (mz_okS_hd hos) hos) p e s m args below meth c A H locs ls ad ad0 n0 ok rep hl)
theorem mz_pop {v : Value} (hd : decode cc pc = .ok (.pop, 1)) (hs : v.category = 1) (h : mz_X G X cn ini cc nL ret rm post thr (pc + 1) (l) (r) k1 k2 n (f)) : mz_X G X cn ini cc nL ret rm post thr (pc) (l) (v :: r) k1 k2 n (f) := by
  intro hk1 hk2 hol hos p e s m args below meth c A H locs ls ad ad0 n0 ok rep hl
  obtain ⟨hx, hb, hml, hr, hown, hin, hlocks, hts, hns, hK, hA⟩ := id ok
  exact lv_pop (va := mz_v ad v) hx hb hd (by rw [mz_v_cat]; exact hs) (h hk1 hk2 hol (mz_okS_tl hos) p e s m args below meth c A H locs ls ad ad0 n0 ok rep hl)
theorem mz_dup_x1 {v w : Value} (hd : decode cc pc = .ok (.dup_x1, 1)) (hs : v.category = 1) (hs2 : w.category = 1) (h : mz_X G X cn ini cc nL ret rm post thr (pc + 1) (l) (v :: w :: v :: r) k1 k2 n (f)) : mz_X G X cn ini cc nL ret rm post thr (pc) (l) (v :: w :: r) k1 k2 n (f) := by
  intro hk1 hk2 hol hos p e s m args below meth c A H locs ls ad ad0 n0 ok rep hl
  obtain ⟨hx, hb, hml, hr, hown, hin, hlocks, hts, hns, hK, hA⟩ := id ok
  exact lv_dup_x1 hx hb hd (by rw [mz_v_cat]; exact hs) (by rw [mz_v_cat]; exact hs2) (h hk1 hk2 hol (mz_okS_c (mz_okS_hd hos) (mz_okS_c (mz_okS_hd (mz_okS_tl hos)) (mz_okS_c (mz_okS_hd hos) (mz_okS_tl (mz_okS_tl hos))))) p e s m args below meth c A H locs ls ad ad0 n0 ok rep hl)
theorem mz_dup2 {v w : Value} (hd : decode cc pc = .ok (.dup2, 1)) (hs : v.category = 1) (hs2 : w.category = 1) (h : mz_X G X cn ini cc nL ret rm post thr (pc + 1) (l) (v :: w :: v :: w :: r) k1 k2 n (f)) : mz_X G X cn ini cc nL ret rm post thr (pc) (l) (v :: w :: r) k1 k2 n (f) := by
  intro hk1 hk2 hol hos p e s m args below meth c A H locs ls ad ad0 n0 ok rep hl
  obtain ⟨hx, hb, hml, hr, hown, hin, hlocks, hts, hns, hK, hA⟩ := id ok
  exact lv_dup2_11 hx hb hd (by rw [mz_v_cat]; exact hs) (by rw [mz_v_cat]; exact hs2) (h hk1 hk2 hol (mz_okS_c (mz_okS_hd hos) (mz_okS_c (mz_okS_hd (mz_okS_tl hos)) hos)) p e s m args below meth c A H locs ls ad ad0 n0 ok rep hl)
theorem mz_iload {i : Nat} {x : Int32} (hd : decode cc pc = .ok (.iload i, 2)) (hi : l[i]? = some (some (.int x))) (h : mz_X G X cn ini cc nL ret rm post thr (pc + 2) (l) (.int x :: r) k1 k2 n (f)) : mz_X G X cn ini cc nL ret rm post thr (pc) (l) (r) k1 k2 n (f) := by
  intro hk1 hk2 hol hos p e s m args below meth c A H locs ls ad ad0 n0 ok rep hl
  obtain ⟨hx, hb, hml, hr, hown, hin, hlocks, hts, hns, hK, hA⟩ := id ok
  exact lv_iload hx hb hd (mz_lv_at hl hi) (h hk1 hk2 hol (mz_okS_c trivial hos) p e s m args below meth c A H locs ls ad ad0 n0 ok rep hl)
theorem mz_iload_n {i : Fin 4} {x : Int32} (hd : decode cc pc = .ok (.iload_n i, 1)) (hi : l[i.val]? = some (some (.int x))) (h : mz_X G X cn ini cc nL ret rm post thr (pc + 1) (l) (.int x :: r) k1 k2 n (f)) : mz_X G X cn ini cc nL ret rm post thr (pc) (l) (r) k1 k2 n (f) := by
  intro hk1 hk2 hol hos p e s m args below meth c A H locs ls ad ad0 n0 ok rep hl
  obtain ⟨hx, hb, hml, hr, hown, hin, hlocks, hts, hns, hK, hA⟩ := id ok
  exact lv_iload_n hx hb hd rfl (mz_lv_at hl hi) (h hk1 hk2 hol (mz_okS_c trivial hos) p e s m args below meth c A H locs ls ad ad0 n0 ok rep hl)
theorem mz_lload {i : Nat} {x : Int64} (hd : decode cc pc = .ok (.lload i, 2)) (hi : l[i]? = some (some (.long x))) (h : mz_X G X cn ini cc nL ret rm post thr (pc + 2) (l) (.long x :: r) k1 k2 n (f)) : mz_X G X cn ini cc nL ret rm post thr (pc) (l) (r) k1 k2 n (f) := by
  intro hk1 hk2 hol hos p e s m args below meth c A H locs ls ad ad0 n0 ok rep hl
  obtain ⟨hx, hb, hml, hr, hown, hin, hlocks, hts, hns, hK, hA⟩ := id ok
  exact lv_lload hx hb hd (mz_lv_at hl hi) (h hk1 hk2 hol (mz_okS_c trivial hos) p e s m args below meth c A H locs ls ad ad0 n0 ok rep hl)
theorem mz_lload_n {i : Fin 4} {x : Int64} (hd : decode cc pc = .ok (.lload_n i, 1)) (hi : l[i.val]? = some (some (.long x))) (h : mz_X G X cn ini cc nL ret rm post thr (pc + 1) (l) (.long x :: r) k1 k2 n (f)) : mz_X G X cn ini cc nL ret rm post thr (pc) (l) (r) k1 k2 n (f) := by
  intro hk1 hk2 hol hos p e s m args below meth c A H locs ls ad ad0 n0 ok rep hl
  obtain ⟨hx, hb, hml, hr, hown, hin, hlocks, hts, hns, hK, hA⟩ := id ok
  exact lv_lload_n hx hb hd rfl (mz_lv_at hl hi) (h hk1 hk2 hol (mz_okS_c trivial hos) p e s m args below meth c A H locs ls ad ad0 n0 ok rep hl)
theorem mz_aload {i : Nat} {x : Nat} (hd : decode cc pc = .ok (.aload i, 2)) (hi : l[i]? = some (some (.ref x))) (h : mz_X G X cn ini cc nL ret rm post thr (pc + 2) (l) (.ref x :: r) k1 k2 n (f)) : mz_X G X cn ini cc nL ret rm post thr (pc) (l) (r) k1 k2 n (f) := by
  intro hk1 hk2 hol hos p e s m args below meth c A H locs ls ad ad0 n0 ok rep hl
  obtain ⟨hx, hb, hml, hr, hown, hin, hlocks, hts, hns, hK, hA⟩ := id ok
  exact lv_aload hx hb hd (mz_lv_at hl hi) (h hk1 hk2 hol (mz_okS_c (mz_okL_get hol hi) hos) p e s m args below meth c A H locs ls ad ad0 n0 ok rep hl)
theorem mz_aload_n {i : Fin 4} {x : Nat} (hd : decode cc pc = .ok (.aload_n i, 1)) (hi : l[i.val]? = some (some (.ref x))) (h : mz_X G X cn ini cc nL ret rm post thr (pc + 1) (l) (.ref x :: r) k1 k2 n (f)) : mz_X G X cn ini cc nL ret rm post thr (pc) (l) (r) k1 k2 n (f) := by
  intro hk1 hk2 hol hos p e s m args below meth c A H locs ls ad ad0 n0 ok rep hl
  obtain ⟨hx, hb, hml, hr, hown, hin, hlocks, hts, hns, hK, hA⟩ := id ok
  exact lv_aload_n hx hb hd rfl (mz_lv_at hl hi) (h hk1 hk2 hol (mz_okS_c (mz_okL_get hol hi) hos) p e s m args below meth c A H locs ls ad ad0 n0 ok rep hl)
theorem mz_aloadN {i : Nat}  (hd : decode cc pc = .ok (.aload i, 2)) (hi : l[i]? = some (some (.null))) (h : mz_X G X cn ini cc nL ret rm post thr (pc + 2) (l) (.null :: r) k1 k2 n (f)) : mz_X G X cn ini cc nL ret rm post thr (pc) (l) (r) k1 k2 n (f) := by
  intro hk1 hk2 hol hos p e s m args below meth c A H locs ls ad ad0 n0 ok rep hl
  obtain ⟨hx, hb, hml, hr, hown, hin, hlocks, hts, hns, hK, hA⟩ := id ok
  exact lv_aloadN hx hb hd (mz_lv_at hl hi) (h hk1 hk2 hol (mz_okS_c (mz_okL_get hol hi) hos) p e s m args below meth c A H locs ls ad ad0 n0 ok rep hl)
theorem mz_aload_nN {i : Fin 4}  (hd : decode cc pc = .ok (.aload_n i, 1)) (hi : l[i.val]? = some (some (.null))) (h : mz_X G X cn ini cc nL ret rm post thr (pc + 1) (l) (.null :: r) k1 k2 n (f)) : mz_X G X cn ini cc nL ret rm post thr (pc) (l) (r) k1 k2 n (f) := by
  intro hk1 hk2 hol hos p e s m args below meth c A H locs ls ad ad0 n0 ok rep hl
  obtain ⟨hx, hb, hml, hr, hown, hin, hlocks, hts, hns, hK, hA⟩ := id ok
  exact lv_aload_nN hx hb hd rfl (mz_lv_at hl hi) (h hk1 hk2 hol (mz_okS_c (mz_okL_get hol hi) hos) p e s m args below meth c A H locs ls ad ad0 n0 ok rep hl)
theorem mz_istore {i : Nat} {x : Int32} (hd : decode cc pc = .ok (.istore i, 2)) (hn : i < nL) (h : mz_X G X cn ini cc nL ret rm post thr (pc + 2) (mz_s1 l i (.int x)) (r) k1 k2 n (f)) : mz_X G X cn ini cc nL ret rm post thr (pc) (l) (.int x :: r) k1 k2 n (f) := by
  intro hk1 hk2 hol hos p e s m args below meth c A H locs ls ad ad0 n0 ok rep hl
  obtain ⟨hx, hb, hml, hr, hown, hin, hlocks, hts, hns, hK, hA⟩ := id ok
  refine lv_istore hx hb hd hl hn rfl (fun ls' hl' => ?_)
  exact (h hk1 hk2 (mz_okL_s1 hol (mz_okS_hd hos)) (mz_okS_tl hos) p e s m args below meth c A H locs ls' ad ad0 n0 ok rep (mz_lv_s1 (ls := ls) (v := .int x) hl'))
theorem mz_istore_n {i : Fin 4} {x : Int32} (hd : decode cc pc = .ok (.istore_n i, 1)) (hn : i.val < nL) (h : mz_X G X cn ini cc nL ret rm post thr (pc + 1) (mz_s1 l i.val (.int x)) (r) k1 k2 n (f)) : mz_X G X cn ini cc nL ret rm post thr (pc) (l) (.int x :: r) k1 k2 n (f) := by
  intro hk1 hk2 hol hos p e s m args below meth c A H locs ls ad ad0 n0 ok rep hl
  obtain ⟨hx, hb, hml, hr, hown, hin, hlocks, hts, hns, hK, hA⟩ := id ok
  refine lv_istore_n hx hb hd rfl hl hn rfl (fun ls' hl' => ?_)
  exact (h hk1 hk2 (mz_okL_s1 hol (mz_okS_hd hos)) (mz_okS_tl hos) p e s m args below meth c A H locs ls' ad ad0 n0 ok rep (mz_lv_s1 (ls := ls) (v := .int x) hl'))
theorem mz_lstore {i : Nat} {x : Int64} (hd : decode cc pc = .ok (.lstore i, 2)) (hn : i + 1 < nL) (h : mz_X G X cn ini cc nL ret rm post thr (pc + 2) (mz_s2 l i (.long x)) (r) k1 k2 n (f)) : mz_X G X cn ini cc nL ret rm post thr (pc) (l) (.long x :: r) k1 k2 n (f) := by
  intro hk1 hk2 hol hos p e s m args below meth c A H locs ls ad ad0 n0 ok rep hl
  obtain ⟨hx, hb, hml, hr, hown, hin, hlocks, hts, hns, hK, hA⟩ := id ok
  refine lv_lstore hx hb hd hl hn rfl (fun ls' hl' => ?_)
  exact (h hk1 hk2 (mz_okL_s2 hol (mz_okS_hd hos)) (mz_okS_tl hos) p e s m args below meth c A H locs ls' ad ad0 n0 ok rep (mz_lv_s2 (ls := ls) (v := .long x) hl'))
theorem mz_lstore_n {i : Fin 4} {x : Int64} (hd : decode cc pc = .ok (.lstore_n i, 1)) (hn : i.val + 1 < nL) (h : mz_X G X cn ini cc nL ret rm post thr (pc + 1) (mz_s2 l i.val (.long x)) (r) k1 k2 n (f)) : mz_X G X cn ini cc nL ret rm post thr (pc) (l) (.long x :: r) k1 k2 n (f) := by
  intro hk1 hk2 hol hos p e s m args below meth c A H locs ls ad ad0 n0 ok rep hl
  obtain ⟨hx, hb, hml, hr, hown, hin, hlocks, hts, hns, hK, hA⟩ := id ok
  refine lv_lstore_n hx hb hd rfl hl hn rfl (fun ls' hl' => ?_)
  exact (h hk1 hk2 (mz_okL_s2 hol (mz_okS_hd hos)) (mz_okS_tl hos) p e s m args below meth c A H locs ls' ad ad0 n0 ok rep (mz_lv_s2 (ls := ls) (v := .long x) hl'))
theorem mz_astore {i : Nat} {x : Nat} (hd : decode cc pc = .ok (.astore i, 2)) (hn : i < nL) (h : mz_X G X cn ini cc nL ret rm post thr (pc + 2) (mz_s1 l i (.ref x)) (r) k1 k2 n (f)) : mz_X G X cn ini cc nL ret rm post thr (pc) (l) (.ref x :: r) k1 k2 n (f) := by
  intro hk1 hk2 hol hos p e s m args below meth c A H locs ls ad ad0 n0 ok rep hl
  obtain ⟨hx, hb, hml, hr, hown, hin, hlocks, hts, hns, hK, hA⟩ := id ok
  refine lv_astore hx hb hd hl hn rfl (fun ls' hl' => ?_)
  exact (h hk1 hk2 (mz_okL_s1 hol (mz_okS_hd hos)) (mz_okS_tl hos) p e s m args below meth c A H locs ls' ad ad0 n0 ok rep (mz_lv_s1 (ls := ls) (v := .ref x) hl'))
theorem mz_astore_n {i : Fin 4} {x : Nat} (hd : decode cc pc = .ok (.astore_n i, 1)) (hn : i.val < nL) (h : mz_X G X cn ini cc nL ret rm post thr (pc + 1) (mz_s1 l i.val (.ref x)) (r) k1 k2 n (f)) : mz_X G X cn ini cc nL ret rm post thr (pc) (l) (.ref x :: r) k1 k2 n (f) := by
  intro hk1 hk2 hol hos p e s m args below meth c A H locs ls ad ad0 n0 ok rep hl
  obtain ⟨hx, hb, hml, hr, hown, hin, hlocks, hts, hns, hK, hA⟩ := id ok
  refine lv_astore_n hx hb hd rfl hl hn rfl (fun ls' hl' => ?_)
  exact (h hk1 hk2 (mz_okL_s1 hol (mz_okS_hd hos)) (mz_okS_tl hos) p e s m args below meth c A H locs ls' ad ad0 n0 ok rep (mz_lv_s1 (ls := ls) (v := .ref x) hl'))
theorem mz_astoreN {i : Nat} (hd : decode cc pc = .ok (.astore i, 2)) (hn : i < nL) (h : mz_X G X cn ini cc nL ret rm post thr (pc + 2) (mz_s1 l i (.null)) (r) k1 k2 n (f)) : mz_X G X cn ini cc nL ret rm post thr (pc) (l) (.null :: r) k1 k2 n (f) := by
  intro hk1 hk2 hol hos p e s m args below meth c A H locs ls ad ad0 n0 ok rep hl
  obtain ⟨hx, hb, hml, hr, hown, hin, hlocks, hts, hns, hK, hA⟩ := id ok
  refine lv_astoreN hx hb hd hl hn rfl (fun ls' hl' => ?_)
  exact (h hk1 hk2 (mz_okL_s1 hol (mz_okS_hd hos)) (mz_okS_tl hos) p e s m args below meth c A H locs ls' ad ad0 n0 ok rep (mz_lv_s1 (ls := ls) (v := .null) hl'))
theorem mz_astore_nN {i : Fin 4} (hd : decode cc pc = .ok (.astore_n i, 1)) (hn : i.val < nL) (h : mz_X G X cn ini cc nL ret rm post thr (pc + 1) (mz_s1 l i.val (.null)) (r) k1 k2 n (f)) : mz_X G X cn ini cc nL ret rm post thr (pc) (l) (.null :: r) k1 k2 n (f) := by
  intro hk1 hk2 hol hos p e s m args below meth c A H locs ls ad ad0 n0 ok rep hl
  obtain ⟨hx, hb, hml, hr, hown, hin, hlocks, hts, hns, hK, hA⟩ := id ok
  refine lv_astore_nN hx hb hd rfl hl hn rfl (fun ls' hl' => ?_)
  exact (h hk1 hk2 (mz_okL_s1 hol (mz_okS_hd hos)) (mz_okS_tl hos) p e s m args below meth c A H locs ls' ad ad0 n0 ok rep (mz_lv_s1 (ls := ls) (v := .null) hl'))
theorem mz_iinc {i : Nat} {d : Int} {x : Int32} (hd : decode cc pc = .ok (.iinc i d, 3)) (hi : l[i]? = some (some (.int x))) (hn : i < nL) (h : mz_X G X cn ini cc nL ret rm post thr (pc + 3) (mz_s1 l i (.int (x + Int32.ofInt d))) (r) k1 k2 n (f)) : mz_X G X cn ini cc nL ret rm post thr (pc) (l) (r) k1 k2 n (f) := by
  intro hk1 hk2 hol hos p e s m args below meth c A H locs ls ad ad0 n0 ok rep hl
  obtain ⟨hx, hb, hml, hr, hown, hin, hlocks, hts, hns, hK, hA⟩ := id ok
  obtain ⟨k, hk⟩ := List.mem_iff_getElem?.mp (mz_pr_mem (ad := ad) (w := .int x) |>.mpr ⟨.int x, hi, rfl⟩)
  refine lv_iinc hx hb hd hl hk rfl hn rfl (fun ls' hl' => ?_)
  exact (h hk1 hk2 (mz_okL_s1 hol trivial) hos p e s m args below meth c A H locs ls' ad ad0 n0 ok rep (mz_lv_s1 (ls := ls) (v := .int (x + Int32.ofInt d)) hl'))
theorem mz_if_eq {x : Int32} {off : Int} (hd : decode cc pc = .ok (.ifCond .eq off, 3)) (h0 : 0 ≤ (pc : Int) + off) (ht : x = 0 → mz_X G X cn ini cc nL ret rm post thr (mz_t pc off) (l) (r) k1 k2 n (f)) (hf : ¬ x = 0 → mz_X G X cn ini cc nL ret rm post thr (pc + 3) (l) (r) k1 k2 n (f)) : mz_X G X cn ini cc nL ret rm post thr (pc) (l) (.int x :: r) k1 k2 n (f) := by
  intro hk1 hk2 hol hos p e s m args below meth c A H locs ls ad ad0 n0 ok rep hl
  obtain ⟨hx, hb, hml, hr, hown, hin, hlocks, hts, hns, hK, hA⟩ := id ok
  exact lv_if_eq hx hb hd (mz_t_ok h0) (fun q => (ht q hk1 hk2 hol (mz_okS_tl hos) p e s m args below meth c A H locs ls ad ad0 n0 ok rep hl)) (fun q => (hf q hk1 hk2 hol (mz_okS_tl hos) p e s m args below meth c A H locs ls ad ad0 n0 ok rep hl))
theorem mz_icmp_eq {x y : Int32} {off : Int} (hd : decode cc pc = .ok (.if_icmp .eq off, 3)) (h0 : 0 ≤ (pc : Int) + off) (ht : x = y → mz_X G X cn ini cc nL ret rm post thr (mz_t pc off) (l) (r) k1 k2 n (f)) (hf : ¬ x = y → mz_X G X cn ini cc nL ret rm post thr (pc + 3) (l) (r) k1 k2 n (f)) : mz_X G X cn ini cc nL ret rm post thr (pc) (l) (.int y :: .int x :: r) k1 k2 n (f) := by
  intro hk1 hk2 hol hos p e s m args below meth c A H locs ls ad ad0 n0 ok rep hl
  obtain ⟨hx, hb, hml, hr, hown, hin, hlocks, hts, hns, hK, hA⟩ := id ok
  exact lv_icmp_eq hx hb hd (mz_t_ok h0) (fun q => (ht q hk1 hk2 hol (mz_okS_tl (mz_okS_tl hos)) p e s m args below meth c A H locs ls ad ad0 n0 ok rep hl)) (fun q => (hf q hk1 hk2 hol (mz_okS_tl (mz_okS_tl hos)) p e s m args below meth c A H locs ls ad ad0 n0 ok rep hl))
theorem mz_if_ne {x : Int32} {off : Int} (hd : decode cc pc = .ok (.ifCond .ne off, 3)) (h0 : 0 ≤ (pc : Int) + off) (ht : ¬ x = 0 → mz_X G X cn ini cc nL ret rm post thr (mz_t pc off) (l) (r) k1 k2 n (f)) (hf : x = 0 → mz_X G X cn ini cc nL ret rm post thr (pc + 3) (l) (r) k1 k2 n (f)) : mz_X G X cn ini cc nL ret rm post thr (pc) (l) (.int x :: r) k1 k2 n (f) := by
  intro hk1 hk2 hol hos p e s m args below meth c A H locs ls ad ad0 n0 ok rep hl
  obtain ⟨hx, hb, hml, hr, hown, hin, hlocks, hts, hns, hK, hA⟩ := id ok
  exact lv_if_ne hx hb hd (mz_t_ok h0) (fun q => (ht q hk1 hk2 hol (mz_okS_tl hos) p e s m args below meth c A H locs ls ad ad0 n0 ok rep hl)) (fun q => (hf q hk1 hk2 hol (mz_okS_tl hos) p e s m args below meth c A H locs ls ad ad0 n0 ok rep hl))
theorem mz_icmp_ne {x y : Int32} {off : Int} (hd : decode cc pc = .ok (.if_icmp .ne off, 3)) (h0 : 0 ≤ (pc : Int) + off) (ht : ¬ x = y → mz_X G X cn ini cc nL ret rm post thr (mz_t pc off) (l) (r) k1 k2 n (f)) (hf : x = y → mz_X G X cn ini cc nL ret rm post thr (pc + 3) (l) (r) k1 k2 n (f)) : mz_X G X cn ini cc nL ret rm post thr (pc) (l) (.int y :: .int x :: r) k1 k2 n (f) := by
  intro hk1 hk2 hol hos p e s m args below meth c A H locs ls ad ad0 n0 ok rep hl
  obtain ⟨hx, hb, hml, hr, hown, hin, hlocks, hts, hns, hK, hA⟩ := id ok
  exact lv_icmp_ne hx hb hd (mz_t_ok h0) (fun q => (ht q hk1 hk2 hol (mz_okS_tl (mz_okS_tl hos)) p e s m args below meth c A H locs ls ad ad0 n0 ok rep hl)) (fun q => (hf q hk1 hk2 hol (mz_okS_tl (mz_okS_tl hos)) p e s m args below meth c A H locs ls ad ad0 n0 ok rep hl))
theorem mz_if_lt {x : Int32} {off : Int} (hd : decode cc pc = .ok (.ifCond .lt off, 3)) (h0 : 0 ≤ (pc : Int) + off) (ht : x < 0 → mz_X G X cn ini cc nL ret rm post thr (mz_t pc off) (l) (r) k1 k2 n (f)) (hf : ¬ x < 0 → mz_X G X cn ini cc nL ret rm post thr (pc + 3) (l) (r) k1 k2 n (f)) : mz_X G X cn ini cc nL ret rm post thr (pc) (l) (.int x :: r) k1 k2 n (f) := by
  intro hk1 hk2 hol hos p e s m args below meth c A H locs ls ad ad0 n0 ok rep hl
  obtain ⟨hx, hb, hml, hr, hown, hin, hlocks, hts, hns, hK, hA⟩ := id ok
  exact lv_if_lt hx hb hd (mz_t_ok h0) (fun q => (ht q hk1 hk2 hol (mz_okS_tl hos) p e s m args below meth c A H locs ls ad ad0 n0 ok rep hl)) (fun q => (hf q hk1 hk2 hol (mz_okS_tl hos) p e s m args below meth c A H locs ls ad ad0 n0 ok rep hl))
theorem mz_icmp_lt {x y : Int32} {off : Int} (hd : decode cc pc = .ok (.if_icmp .lt off, 3)) (h0 : 0 ≤ (pc : Int) + off) (ht : x < y → mz_X G X cn ini cc nL ret rm post thr (mz_t pc off) (l) (r) k1 k2 n (f)) (hf : ¬ x < y → mz_X G X cn ini cc nL ret rm post thr (pc + 3) (l) (r) k1 k2 n (f)) : mz_X G X cn ini cc nL ret rm post thr (pc) (l) (.int y :: .int x :: r) k1 k2 n (f) := by
  intro hk1 hk2 hol hos p e s m args below meth c A H locs ls ad ad0 n0 ok rep hl
  obtain ⟨hx, hb, hml, hr, hown, hin, hlocks, hts, hns, hK, hA⟩ := id ok
  exact lv_icmp_lt hx hb hd (mz_t_ok h0) (fun q => (ht q hk1 hk2 hol (mz_okS_tl (mz_okS_tl hos)) p e s m args below meth c A H locs ls ad ad0 n0 ok rep hl)) (fun q => (hf q hk1 hk2 hol (mz_okS_tl (mz_okS_tl hos)) p e s m args below meth c A H locs ls ad ad0 n0 ok rep hl))
theorem mz_if_ge {x : Int32} {off : Int} (hd : decode cc pc = .ok (.ifCond .ge off, 3)) (h0 : 0 ≤ (pc : Int) + off) (ht : 0 ≤ x → mz_X G X cn ini cc nL ret rm post thr (mz_t pc off) (l) (r) k1 k2 n (f)) (hf : ¬ 0 ≤ x → mz_X G X cn ini cc nL ret rm post thr (pc + 3) (l) (r) k1 k2 n (f)) : mz_X G X cn ini cc nL ret rm post thr (pc) (l) (.int x :: r) k1 k2 n (f) := by
  intro hk1 hk2 hol hos p e s m args below meth c A H locs ls ad ad0 n0 ok rep hl
  obtain ⟨hx, hb, hml, hr, hown, hin, hlocks, hts, hns, hK, hA⟩ := id ok
  exact lv_if_ge hx hb hd (mz_t_ok h0) (fun q => (ht q hk1 hk2 hol (mz_okS_tl hos) p e s m args below meth c A H locs ls ad ad0 n0 ok rep hl)) (fun q => (hf q hk1 hk2 hol (mz_okS_tl hos) p e s m args below meth c A H locs ls ad ad0 n0 ok rep hl))
theorem mz_icmp_ge {x y : Int32} {off : Int} (hd : decode cc pc = .ok (.if_icmp .ge off, 3)) (h0 : 0 ≤ (pc : Int) + off) (ht : y ≤ x → mz_X G X cn ini cc nL ret rm post thr (mz_t pc off) (l) (r) k1 k2 n (f)) (hf : ¬ y ≤ x → mz_X G X cn ini cc nL ret rm post thr (pc + 3) (l) (r) k1 k2 n (f)) : mz_X G X cn ini cc nL ret rm post thr (pc) (l) (.int y :: .int x :: r) k1 k2 n (f) := by
  intro hk1 hk2 hol hos p e s m args below meth c A H locs ls ad ad0 n0 ok rep hl
  obtain ⟨hx, hb, hml, hr, hown, hin, hlocks, hts, hns, hK, hA⟩ := id ok
  exact lv_icmp_ge hx hb hd (mz_t_ok h0) (fun q => (ht q hk1 hk2 hol (mz_okS_tl (mz_okS_tl hos)) p e s m args below meth c A H locs ls ad ad0 n0 ok rep hl)) (fun q => (hf q hk1 hk2 hol (mz_okS_tl (mz_okS_tl hos)) p e s m args below meth c A H locs ls ad ad0 n0 ok rep hl))
theorem mz_if_gt {x : Int32} {off : Int} (hd : decode cc pc = .ok (.ifCond .gt off, 3)) (h0 : 0 ≤ (pc : Int) + off) (ht : 0 < x → mz_X G X cn ini cc nL ret rm post thr (mz_t pc off) (l) (r) k1 k2 n (f)) (hf : ¬ 0 < x → mz_X G X cn ini cc nL ret rm post thr (pc + 3) (l) (r) k1 k2 n (f)) : mz_X G X cn ini cc nL ret rm post thr (pc) (l) (.int x :: r) k1 k2 n (f) := by
  intro hk1 hk2 hol hos p e s m args below meth c A H locs ls ad ad0 n0 ok rep hl
  obtain ⟨hx, hb, hml, hr, hown, hin, hlocks, hts, hns, hK, hA⟩ := id ok
  exact lv_if_gt hx hb hd (mz_t_ok h0) (fun q => (ht q hk1 hk2 hol (mz_okS_tl hos) p e s m args below meth c A H locs ls ad ad0 n0 ok rep hl)) (fun q => (hf q hk1 hk2 hol (mz_okS_tl hos) p e s m args below meth c A H locs ls ad ad0 n0 ok rep hl))
theorem mz_icmp_gt {x y : Int32} {off : Int} (hd : decode cc pc = .ok (.if_icmp .gt off, 3)) (h0 : 0 ≤ (pc : Int) + off) (ht : y < x → mz_X G X cn ini cc nL ret rm post thr (mz_t pc off) (l) (r) k1 k2 n (f)) (hf : ¬ y < x → mz_X G X cn ini cc nL ret rm post thr (pc + 3) (l) (r) k1 k2 n (f)) : mz_X G X cn ini cc nL ret rm post thr (pc) (l) (.int y :: .int x :: r) k1 k2 n (f) := by
  intro hk1 hk2 hol hos p e s m args below meth c A H locs ls ad ad0 n0 ok rep hl
  obtain ⟨hx, hb, hml, hr, hown, hin, hlocks, hts, hns, hK, hA⟩ := id ok
  exact lv_icmp_gt hx hb hd (mz_t_ok h0) (fun q => (ht q hk1 hk2 hol (mz_okS_tl (mz_okS_tl hos)) p e s m args below meth c A H locs ls ad ad0 n0 ok rep hl)) (fun q => (hf q hk1 hk2 hol (mz_okS_tl (mz_okS_tl hos)) p e s m args below meth c A H locs ls ad ad0 n0 ok rep hl))
theorem mz_if_le {x : Int32} {off : Int} (hd : decode cc pc = .ok (.ifCond .le off, 3)) (h0 : 0 ≤ (pc : Int) + off) (ht : x ≤ 0 → mz_X G X cn ini cc nL ret rm post thr (mz_t pc off) (l) (r) k1 k2 n (f)) (hf : ¬ x ≤ 0 → mz_X G X cn ini cc nL ret rm post thr (pc + 3) (l) (r) k1 k2 n (f)) : mz_X G X cn ini cc nL ret rm post thr (pc) (l) (.int x :: r) k1 k2 n (f) := by
  intro hk1 hk2 hol hos p e s m args below meth c A H locs ls ad ad0 n0 ok rep hl
  obtain ⟨hx, hb, hml, hr, hown, hin, hlocks, hts, hns, hK, hA⟩ := id ok
  exact lv_if_le hx hb hd (mz_t_ok h0) (fun q => (ht q hk1 hk2 hol (mz_okS_tl hos) p e s m args below meth c A H locs ls ad ad0 n0 ok rep hl)) (fun q => (hf q hk1 hk2 hol (mz_okS_tl hos) p e s m args below meth c A H locs ls ad ad0 n0 ok rep hl))
theorem mz_icmp_le {x y : Int32} {off : Int} (hd : decode cc pc = .ok (.if_icmp .le off, 3)) (h0 : 0 ≤ (pc : Int) + off) (ht : x ≤ y → mz_X G X cn ini cc nL ret rm post thr (mz_t pc off) (l) (r) k1 k2 n (f)) (hf : ¬ x ≤ y → mz_X G X cn ini cc nL ret rm post thr (pc + 3) (l) (r) k1 k2 n (f)) : mz_X G X cn ini cc nL ret rm post thr (pc) (l) (.int y :: .int x :: r) k1 k2 n (f) := by
  intro hk1 hk2 hol hos p e s m args below meth c A H locs ls ad ad0 n0 ok rep hl
  obtain ⟨hx, hb, hml, hr, hown, hin, hlocks, hts, hns, hK, hA⟩ := id ok
  exact lv_icmp_le hx hb hd (mz_t_ok h0) (fun q => (ht q hk1 hk2 hol (mz_okS_tl (mz_okS_tl hos)) p e s m args below meth c A H locs ls ad ad0 n0 ok rep hl)) (fun q => (hf q hk1 hk2 hol (mz_okS_tl (mz_okS_tl hos)) p e s m args below meth c A H locs ls ad ad0 n0 ok rep hl))
theorem mz_goto {off : Int} (hd : decode cc pc = .ok (.goto off, 3)) (h0 : 0 ≤ (pc : Int) + off) (h : mz_X G X cn ini cc nL ret rm post thr (mz_t pc off) (l) (r) k1 k2 n (f)) : mz_X G X cn ini cc nL ret rm post thr (pc) (l) (r) k1 k2 n (f) := by
  intro hk1 hk2 hol hos p e s m args below meth c A H locs ls ad ad0 n0 ok rep hl
  obtain ⟨hx, hb, hml, hr, hown, hin, hlocks, hts, hns, hK, hA⟩ := id ok
  exact lv_goto hx hb hd (mz_t_ok h0) (h hk1 hk2 hol hos p e s m args below meth c A H locs ls ad ad0 n0 ok rep hl)
theorem mz_ifnull {x : Nat} {off : Int} (hd : decode cc pc = .ok (.ifnull off, 3)) (h : mz_X G X cn ini cc nL ret rm post thr (pc + 3) (l) (r) k1 k2 n (f)) : mz_X G X cn ini cc nL ret rm post thr (pc) (l) (.ref x :: r) k1 k2 n (f) := by
  intro hk1 hk2 hol hos p e s m args below meth c A H locs ls ad ad0 n0 ok rep hl
  obtain ⟨hx, hb, hml, hr, hown, hin, hlocks, hts, hns, hK, hA⟩ := id ok
  exact lv_ifnull hx hb hd (h hk1 hk2 hol (mz_okS_tl hos) p e s m args below meth c A H locs ls ad ad0 n0 ok rep hl)
theorem mz_ifnonnull {x : Nat} {off : Int} (hd : decode cc pc = .ok (.ifnonnull off, 3)) (h0 : 0 ≤ (pc : Int) + off) (h : mz_X G X cn ini cc nL ret rm post thr (mz_t pc off) (l) (r) k1 k2 n (f)) : mz_X G X cn ini cc nL ret rm post thr (pc) (l) (.ref x :: r) k1 k2 n (f) := by
  intro hk1 hk2 hol hos p e s m args below meth c A H locs ls ad ad0 n0 ok rep hl
  obtain ⟨hx, hb, hml, hr, hown, hin, hlocks, hts, hns, hK, hA⟩ := id ok
  exact lv_ifnonnull hx hb hd (mz_t_ok h0) (h hk1 hk2 hol (mz_okS_tl hos) p e s m args below meth c A H locs ls ad ad0 n0 ok rep hl)
theorem mz_ifnullN {off : Int} (hd : decode cc pc = .ok (.ifnull off, 3)) (h0 : 0 ≤ (pc : Int) + off) (h : mz_X G X cn ini cc nL ret rm post thr (mz_t pc off) (l) (r) k1 k2 n (f)) : mz_X G X cn ini cc nL ret rm post thr (pc) (l) (.null :: r) k1 k2 n (f) := by
  intro hk1 hk2 hol hos p e s m args below meth c A H locs ls ad ad0 n0 ok rep hl
  obtain ⟨hx, hb, hml, hr, hown, hin, hlocks, hts, hns, hK, hA⟩ := id ok
  exact lv_ifnullN hx hb hd (mz_t_ok h0) (h hk1 hk2 hol (mz_okS_tl hos) p e s m args below meth c A H locs ls ad ad0 n0 ok rep hl)
theorem mz_ifnonnullN {off : Int} (hd : decode cc pc = .ok (.ifnonnull off, 3)) (h : mz_X G X cn ini cc nL ret rm post thr (pc + 3) (l) (r) k1 k2 n (f)) : mz_X G X cn ini cc nL ret rm post thr (pc) (l) (.null :: r) k1 k2 n (f) := by
  intro hk1 hk2 hol hos p e s m args below meth c A H locs ls ad ad0 n0 ok rep hl
  obtain ⟨hx, hb, hml, hr, hown, hin, hlocks, hts, hns, hK, hA⟩ := id ok
  exact lv_ifnonnullN hx hb hd (h hk1 hk2 hol (mz_okS_tl hos) p e s m args below meth c A H locs ls ad ad0 n0 ok rep hl)
theorem mz_table {x : Int32} {dflt lo hi : Int} {offs : Array Int} {len : Nat} (hd : decode cc pc = .ok (.tableswitch dflt lo hi offs, len)) (ho : (x.toInt < lo ∨ hi < x.toInt) → 0 ≤ (pc : Int) + dflt ∧ mz_X G X cn ini cc nL ret rm post thr (mz_t pc dflt) (l) (r) k1 k2 n (f)) (hi' : ¬ x.toInt < lo → ¬ hi < x.toInt → ∃ off, offs[(x.toInt - lo).toNat]? = some off ∧ 0 ≤ (pc : Int) + off ∧ mz_X G X cn ini cc nL ret rm post thr (mz_t pc off) (l) (r) k1 k2 n (f)) : mz_X G X cn ini cc nL ret rm post thr (pc) (l) (.int x :: r) k1 k2 n (f) := by
  intro hk1 hk2 hol hos p e s m args below meth c A H locs ls ad ad0 n0 ok rep hl
  obtain ⟨hx, hb, hml, hr, hown, hin, hlocks, hts, hns, hK, hA⟩ := id ok
  by_cases q1 : x.toInt < lo
  · obtain ⟨a, b⟩ := ho (Or.inl q1)
    exact lv_tableOut hx hb hd (Or.inl q1) (mz_t_ok a) (b hk1 hk2 hol (mz_okS_tl hos) p e s m args below meth c A H locs ls ad ad0 n0 ok rep hl)
  · by_cases q2 : hi < x.toInt
    · obtain ⟨a, b⟩ := ho (Or.inr q2)
      exact lv_tableOut hx hb hd (Or.inr q2) (mz_t_ok a) (b hk1 hk2 hol (mz_okS_tl hos) p e s m args below meth c A H locs ls ad ad0 n0 ok rep hl)
    · obtain ⟨off, a0, a, b⟩ := hi' q1 q2
      exact lv_tableIn hx hb hd q1 q2 a0 (mz_t_ok a) (b hk1 hk2 hol (mz_okS_tl hos) p e s m args below meth c A H locs ls ad ad0 n0 ok rep hl)
theorem mz_look {x : Int32} {dflt : Int} {ps : Array (Int × Int)} {len : Nat} {off : Int} (hd : decode cc pc = .ok (.lookupswitch dflt ps, len)) (hp : (ps.toList.zip (ps.toList.drop 1)).all (fun (a, next) => a.1 < next.1) = true) (ho : Op.lookupswitch.offset ps.toList dflt x.toInt = off) (h0 : 0 ≤ (pc : Int) + off) (h : mz_X G X cn ini cc nL ret rm post thr (mz_t pc off) (l) (r) k1 k2 n (f)) : mz_X G X cn ini cc nL ret rm post thr (pc) (l) (.int x :: r) k1 k2 n (f) := by
  intro hk1 hk2 hol hos p e s m args below meth c A H locs ls ad ad0 n0 ok rep hl
  obtain ⟨hx, hb, hml, hr, hown, hin, hlocks, hts, hns, hK, hA⟩ := id ok
  exact lv_lookup hx hb hd hp ho (mz_t_ok h0) (h hk1 hk2 hol (mz_okS_tl hos) p e s m args below meth c A H locs ls ad ad0 n0 ok rep hl)
theorem mz_ireturn {x : Int32} {ty : FieldType} (hd : decode cc pc = .ok (.ireturn, 1)) (hty : ret = some ty) (hn : narrow ty (.int x) = .int x) (h : post (some (.int x)) n f) : mz_X G X cn ini cc nL ret rm post thr (pc) (l) ([.int x]) k1 k2 n (f) := by
  intro hk1 hk2 hol hos p e s m args below meth c A H locs ls ad ad0 n0 ok rep hl
  obtain ⟨hx, hb, hml, hr, hown, hin, hlocks, hts, hns, hK, hA⟩ := id ok
  refine W.widen (k := rm.cells) (n := rm.slots) hk1 hk2 ?_
  obtain ⟨rP, rD, rS, rW, rN, rA, -⟩ := rep
  exact mz_wor (fun _ q => Or.inl q) <| W.zret hx hb (hr.trans hty) hn (fun t ht hW => ⟨some (.int x), ad, n, f, rfl, h, by rw [ht]; exact rP, rD, rS.F ht, rW, rN, rA, fun y hy => by cases hy; trivial⟩) rS.2.2 hd hlocks
theorem mz_lreturn {x : Int64} (hd : decode cc pc = .ok (.lreturn, 1)) (hty : ret = some .long) (h : post (some (.long x)) n f) : mz_X G X cn ini cc nL ret rm post thr (pc) (l) ([.long x]) k1 k2 n (f) := by
  intro hk1 hk2 hol hos p e s m args below meth c A H locs ls ad ad0 n0 ok rep hl
  obtain ⟨hx, hb, hml, hr, hown, hin, hlocks, hts, hns, hK, hA⟩ := id ok
  refine W.widen (k := rm.cells) (n := rm.slots) hk1 hk2 ?_
  obtain ⟨rP, rD, rS, rW, rN, rA, -⟩ := rep
  exact mz_wor (fun _ q => Or.inl q) <| W.lret hx hb (hr.trans hty) (fun t ht hW => ⟨some (.long x), ad, n, f, rfl, h, by rw [ht]; exact rP, rD, rS.F ht, rW, rN, rA, fun y hy => by cases hy; trivial⟩) rS.2.2 hd hlocks
theorem mz_areturn {v : Value} {ty : FieldType} (hd : decode cc pc = .ok (.areturn, 1)) (hty : ret = some ty) (hrt : (∃ n, ty = .object n) ∨ ∃ t, ty = .array t) (hv : v = .null ∨ ∃ a, v = .ref a) (h : post (some v) n f) : mz_X G X cn ini cc nL ret rm post thr (pc) (l) ([v]) k1 k2 n (f) := by
  intro hk1 hk2 hol hos p e s m args below meth c A H locs ls ad ad0 n0 ok rep hl
  obtain ⟨hx, hb, hml, hr, hown, hin, hlocks, hts, hns, hK, hA⟩ := id ok
  refine W.widen (k := rm.cells) (n := rm.slots) hk1 hk2 ?_
  obtain ⟨rP, rD, rS, rW, rN, rA, -⟩ := rep
  exact mz_wor (fun _ q => Or.inl q) <| W.aret hx hb (hr.trans hty) hrt (by rcases hv with rfl | ⟨a, rfl⟩; exact Or.inl rfl; exact Or.inr ⟨_, rfl⟩) (fun t ht hW => ⟨some v, ad, n, f, rfl, h, by rw [ht]; exact rP, rD, rS.F ht, rW, rN, rA, fun y hy => by cases hy; exact mz_okS_hd hos⟩) rS.2.2 hd hlocks
theorem mz_return (hd : decode cc pc = .ok (.return_, 1)) (hty : ret = none) (h : post none n f) : mz_X G X cn ini cc nL ret rm post thr (pc) (l) ([]) k1 k2 n (f) := by
  intro hk1 hk2 hol hos p e s m args below meth c A H locs ls ad ad0 n0 ok rep hl
  obtain ⟨hx, hb, hml, hr, hown, hin, hlocks, hts, hns, hK, hA⟩ := id ok
  refine W.widen (k := rm.cells) (n := rm.slots) hk1 hk2 ?_
  obtain ⟨rP, rD, rS, rW, rN, rA, -⟩ := rep
  exact mz_wor (fun _ q => Or.inl q) <| W.vret hx hb (hr.trans hty) (fun t ht hW => ⟨none, ad, n, f, rfl, h, by rw [ht]; exact rP, rD, rS.F ht, rW, rN, rA, fun y hy => by cases hy⟩) rS.2.2 hd hlocks
theorem mz_iald {a N : Nat} {g : Nat → Int32} {i : Int32} (hd : decode cc pc = .ok (.iaload, 1)) (ha : f a = .inl (0, N, .inl g)) (hi : vp_in i N) (h : mz_X G X cn ini cc nL ret rm post thr (pc + 1) (l) (.int (g i.toNatClampNeg) :: r) k1 k2 n (f)) : mz_X G X cn ini cc nL ret rm post thr (pc) (l) (.int i :: .ref a :: r) k1 k2 n (f) := by
  intro hk1 hk2 hol hos p e s m args below meth c A H locs ls ad ad0 n0 ok rep hl
  obtain ⟨hx, hb, hml, hr, hown, hin, hlocks, hts, hns, hK, hA⟩ := id ok
  obtain ⟨rP, rD, rS, rW, rN, rA, rX⟩ := id rep
  have hlt : a < n := mz_wf_lt rW (by rw [ha]; exact fun q => by cases q)
  have hg := mz_w_get (tA := G.2.2) (ad := ad) (f := f) hlt
  rw [ha] at hg
  exact va_iald hx hb hK rP a 0 hg (mz_ty_get nm_ty0) hi hd (h hk1 hk2 hol (mz_okS_c trivial (mz_okS_tl (mz_okS_tl hos))) p e s m args below meth c A H locs ls ad ad0 n0 ok rep hl)
theorem mz_bald {a N : Nat} {g : Nat → Int32} {i : Int32} (hd : decode cc pc = .ok (.baload, 1)) (ha : f a = .inl (1, N, .inl g)) (hi : vp_in i N) (h : mz_X G X cn ini cc nL ret rm post thr (pc + 1) (l) (.int (g i.toNatClampNeg) :: r) k1 k2 n (f)) : mz_X G X cn ini cc nL ret rm post thr (pc) (l) (.int i :: .ref a :: r) k1 k2 n (f) := by
  intro hk1 hk2 hol hos p e s m args below meth c A H locs ls ad ad0 n0 ok rep hl
  obtain ⟨hx, hb, hml, hr, hown, hin, hlocks, hts, hns, hK, hA⟩ := id ok
  obtain ⟨rP, rD, rS, rW, rN, rA, rX⟩ := id rep
  have hlt : a < n := mz_wf_lt rW (by rw [ha]; exact fun q => by cases q)
  have hg := mz_w_get (tA := G.2.2) (ad := ad) (f := f) hlt
  rw [ha] at hg
  exact va_bald hx hb hK rP a 1 hg (mz_ty_get nm_ty1) hi hd (h hk1 hk2 hol (mz_okS_c trivial (mz_okS_tl (mz_okS_tl hos))) p e s m args below meth c A H locs ls ad ad0 n0 ok rep hl)
theorem mz_sald {a N : Nat} {g : Nat → Int32} {i : Int32} (hd : decode cc pc = .ok (.saload, 1)) (ha : f a = .inl (2, N, .inl g)) (hi : vp_in i N) (h : mz_X G X cn ini cc nL ret rm post thr (pc + 1) (l) (.int (g i.toNatClampNeg) :: r) k1 k2 n (f)) : mz_X G X cn ini cc nL ret rm post thr (pc) (l) (.int i :: .ref a :: r) k1 k2 n (f) := by
  intro hk1 hk2 hol hos p e s m args below meth c A H locs ls ad ad0 n0 ok rep hl
  obtain ⟨hx, hb, hml, hr, hown, hin, hlocks, hts, hns, hK, hA⟩ := id ok
  obtain ⟨rP, rD, rS, rW, rN, rA, rX⟩ := id rep
  have hlt : a < n := mz_wf_lt rW (by rw [ha]; exact fun q => by cases q)
  have hg := mz_w_get (tA := G.2.2) (ad := ad) (f := f) hlt
  rw [ha] at hg
  exact va_sald hx hb hK rP a 2 hg (mz_ty_get nm_ty2) hi hd (h hk1 hk2 hol (mz_okS_c trivial (mz_okS_tl (mz_okS_tl hos))) p e s m args below meth c A H locs ls ad ad0 n0 ok rep hl)
theorem mz_lald {a N : Nat} {g : Nat → Int64} {i : Int32} (hd : decode cc pc = .ok (.laload, 1)) (ha : f a = .inl (3, N, .inr (.inl g))) (hi : vp_in i N) (h : mz_X G X cn ini cc nL ret rm post thr (pc + 1) (l) (.long (g i.toNatClampNeg) :: r) k1 k2 n (f)) : mz_X G X cn ini cc nL ret rm post thr (pc) (l) (.int i :: .ref a :: r) k1 k2 n (f) := by
  intro hk1 hk2 hol hos p e s m args below meth c A H locs ls ad ad0 n0 ok rep hl
  obtain ⟨hx, hb, hml, hr, hown, hin, hlocks, hts, hns, hK, hA⟩ := id ok
  obtain ⟨rP, rD, rS, rW, rN, rA, rX⟩ := id rep
  have hlt : a < n := mz_wf_lt rW (by rw [ha]; exact fun q => by cases q)
  have hg := mz_w_get (tA := G.2.2) (ad := ad) (f := f) hlt
  rw [ha] at hg
  exact va_lald hx hb hK rP a 3 hg (mz_ty_get nm_ty3) hi hd (h hk1 hk2 hol (mz_okS_c trivial (mz_okS_tl (mz_okS_tl hos))) p e s m args below meth c A H locs ls ad ad0 n0 ok rep hl)
theorem mz_iast {a N : Nat} {g : Nat → Int32} {i : Int32} {x : Int32} (hd : decode cc pc = .ok (.iastore, 1)) (ha : f a = .inl (0, N, .inl g)) (hi : vp_in i N) (h : mz_X G X cn ini cc nL ret rm post thr (pc + 1) (l) (r) k1 k2 n (mz_u f a (.inl (0, N, .inl (upd g i.toNatClampNeg x))))) : mz_X G X cn ini cc nL ret rm post thr (pc) (l) (.int x :: .int i :: .ref a :: r) k1 k2 n (f) := by
  intro hk1 hk2 hol hos p e s m args below meth c A H locs ls ad ad0 n0 ok rep hl
  obtain ⟨hx, hb, hml, hr, hown, hin, hlocks, hts, hns, hK, hA⟩ := id ok
  obtain ⟨rP, rD, rS, rW, rN, rA, rX⟩ := id rep
  have hnd : f a ≠ mz_d := by rw [ha]; exact fun q => by cases q
  have hlt : a < n := mz_wf_lt rW hnd
  have hg := mz_w_get (tA := G.2.2) (ad := ad) (f := f) hlt
  rw [ha] at hg
  refine va_iast hx hb hK rP rD rS a 0 hg (mz_ty_get nm_ty0) hi hd (fun H1 locs1 hP1 hD1 hS1 => ?_)
  have eW := mz_w_set (tA := G.2.2) (ad := ad) (n := n) (f := f) (k := a) (.inl (0, N, .inl (upd g i.toNatClampNeg x)))
  exact h hk1 hk2 hol (mz_okS_tl (mz_okS_tl (mz_okS_tl hos))) p e s m args below meth c A H1 locs1 ls ad ad0 n0 ok ⟨by rw [← eW]; exact hP1, by rw [← eW]; exact hD1, hS1, mz_wf_u rW hnd trivial, rN, rA, rX⟩ hl
theorem mz_bast {a N : Nat} {g : Nat → Int32} {i : Int32} {x : Int32} (hd : decode cc pc = .ok (.bastore, 1)) (ha : f a = .inl (1, N, .inl g)) (hi : vp_in i N) (h : mz_X G X cn ini cc nL ret rm post thr (pc + 1) (l) (r) k1 k2 n (mz_u f a (.inl (1, N, .inl (upd g i.toNatClampNeg (vp_nar .byte x)))))) : mz_X G X cn ini cc nL ret rm post thr (pc) (l) (.int x :: .int i :: .ref a :: r) k1 k2 n (f) := by
  intro hk1 hk2 hol hos p e s m args below meth c A H locs ls ad ad0 n0 ok rep hl
  obtain ⟨hx, hb, hml, hr, hown, hin, hlocks, hts, hns, hK, hA⟩ := id ok
  obtain ⟨rP, rD, rS, rW, rN, rA, rX⟩ := id rep
  have hnd : f a ≠ mz_d := by rw [ha]; exact fun q => by cases q
  have hlt : a < n := mz_wf_lt rW hnd
  have hg := mz_w_get (tA := G.2.2) (ad := ad) (f := f) hlt
  rw [ha] at hg
  refine va_bast hx hb hK rP rD rS a 1 hg (mz_ty_get nm_ty1) hi hd (fun H1 locs1 hP1 hD1 hS1 => ?_)
  have eW := mz_w_set (tA := G.2.2) (ad := ad) (n := n) (f := f) (k := a) (.inl (1, N, .inl (upd g i.toNatClampNeg (vp_nar .byte x))))
  exact h hk1 hk2 hol (mz_okS_tl (mz_okS_tl (mz_okS_tl hos))) p e s m args below meth c A H1 locs1 ls ad ad0 n0 ok ⟨by rw [← eW]; exact hP1, by rw [← eW]; exact hD1, hS1, mz_wf_u rW hnd trivial, rN, rA, rX⟩ hl
theorem mz_sast {a N : Nat} {g : Nat → Int32} {i : Int32} {x : Int32} (hd : decode cc pc = .ok (.sastore, 1)) (ha : f a = .inl (2, N, .inl g)) (hi : vp_in i N) (h : mz_X G X cn ini cc nL ret rm post thr (pc + 1) (l) (r) k1 k2 n (mz_u f a (.inl (2, N, .inl (upd g i.toNatClampNeg (vp_nar .short x)))))) : mz_X G X cn ini cc nL ret rm post thr (pc) (l) (.int x :: .int i :: .ref a :: r) k1 k2 n (f) := by
  intro hk1 hk2 hol hos p e s m args below meth c A H locs ls ad ad0 n0 ok rep hl
  obtain ⟨hx, hb, hml, hr, hown, hin, hlocks, hts, hns, hK, hA⟩ := id ok
  obtain ⟨rP, rD, rS, rW, rN, rA, rX⟩ := id rep
  have hnd : f a ≠ mz_d := by rw [ha]; exact fun q => by cases q
  have hlt : a < n := mz_wf_lt rW hnd
  have hg := mz_w_get (tA := G.2.2) (ad := ad) (f := f) hlt
  rw [ha] at hg
  refine va_sast hx hb hK rP rD rS a 2 hg (mz_ty_get nm_ty2) hi hd (fun H1 locs1 hP1 hD1 hS1 => ?_)
  have eW := mz_w_set (tA := G.2.2) (ad := ad) (n := n) (f := f) (k := a) (.inl (2, N, .inl (upd g i.toNatClampNeg (vp_nar .short x))))
  exact h hk1 hk2 hol (mz_okS_tl (mz_okS_tl (mz_okS_tl hos))) p e s m args below meth c A H1 locs1 ls ad ad0 n0 ok ⟨by rw [← eW]; exact hP1, by rw [← eW]; exact hD1, hS1, mz_wf_u rW hnd trivial, rN, rA, rX⟩ hl
theorem mz_last {a N : Nat} {g : Nat → Int64} {i : Int32} {x : Int64} (hd : decode cc pc = .ok (.lastore, 1)) (ha : f a = .inl (3, N, .inr (.inl g))) (hi : vp_in i N) (h : mz_X G X cn ini cc nL ret rm post thr (pc + 1) (l) (r) k1 k2 n (mz_u f a (.inl (3, N, .inr (.inl (vp_updL g i.toNatClampNeg x)))))) : mz_X G X cn ini cc nL ret rm post thr (pc) (l) (.long x :: .int i :: .ref a :: r) k1 k2 n (f) := by
  intro hk1 hk2 hol hos p e s m args below meth c A H locs ls ad ad0 n0 ok rep hl
  obtain ⟨hx, hb, hml, hr, hown, hin, hlocks, hts, hns, hK, hA⟩ := id ok
  obtain ⟨rP, rD, rS, rW, rN, rA, rX⟩ := id rep
  have hnd : f a ≠ mz_d := by rw [ha]; exact fun q => by cases q
  have hlt : a < n := mz_wf_lt rW hnd
  have hg := mz_w_get (tA := G.2.2) (ad := ad) (f := f) hlt
  rw [ha] at hg
  refine va_last hx hb hK rP rD rS a 3 hg (mz_ty_get nm_ty3) hi hd (fun H1 locs1 hP1 hD1 hS1 => ?_)
  have eW := mz_w_set (tA := G.2.2) (ad := ad) (n := n) (f := f) (k := a) (.inl (3, N, .inr (.inl (vp_updL g i.toNatClampNeg x))))
  exact h hk1 hk2 hol (mz_okS_tl (mz_okS_tl (mz_okS_tl hos))) p e s m args below meth c A H1 locs1 ls ad ad0 n0 ok ⟨by rw [← eW]; exact hP1, by rw [← eW]; exact hD1, hS1, mz_wf_u rW hnd trivial, rN, rA, rX⟩ hl
theorem mz_v_rf (ad : Nat → Nat) (o : Option Nat) : mz_v ad (va_rf o) = va_rf (o.map ad) := by cases o <;> rfl
theorem mz_okV_rf {n : Nat} {o : Option Nat} (h : ∀ a, o = some a → a < n) : mz_okV n (va_rf o) := by
  cases o with
  | none => trivial
  | some a => exact Or.inl (h a rfl)
theorem mz_aald {a N t : Nat} {g : Nat → Option Nat} {ty : FieldType} {i : Int32} (hd : decode cc pc = .ok (.aaload, 1)) (ha : f a = .inl (t, N, .inr (.inr (.inr (.inr g))))) (ht : nm_Ty[t]? = some ty) (hrt : ty.isReference = true) (hi : vp_in i N) (h : mz_X G X cn ini cc nL ret rm post thr (pc + 1) (l) (va_rf (g i.toNatClampNeg) :: r) k1 k2 n (f)) : mz_X G X cn ini cc nL ret rm post thr (pc) (l) (.int i :: .ref a :: r) k1 k2 n (f) := by
  intro hk1 hk2 hol hos p e s m args below meth c A H locs ls ad ad0 n0 ok rep hl
  obtain ⟨hx, hb, hml, hr, hown, hin, hlocks, hts, hns, hK, hA⟩ := id ok
  obtain ⟨rP, rD, rS, rW, rN, rA, rX⟩ := id rep
  have hlt : a < n := mz_wf_lt rW (by rw [ha]; exact fun q => by cases q)
  have hok := rW.2.1 a
  rw [ha] at hok
  have hg := mz_w_get (tA := G.2.2) (ad := ad) (f := f) hlt
  rw [ha] at hg
  have hlt2 : i.toNatClampNeg < N := Nat.not_le.mp fun q => hi (Or.inr q)
  have hcell : H[ad a]? = some (arrV (G.2.2 t) N (fun j => va_rf ((g j).map ad))) := rP a _ hg
  refine W.aald (v := va_rf ((g i.toNatClampNeg).map ad)) (ty := ty) hx hb hcell ((hK.2 t _ (mz_ty_get ht)).1 N (fun j => va_rf ((g j).map ad))) hrt (fun q => by cases q) (by rw [arrV_size]; exact hi) (by rw [arrV_read _ _ hlt2]) rfl rfl hd ?_
  rw [← mz_v_rf]
  exact (h hk1 hk2 hol (mz_okS_c (mz_okV_rf (fun z hz => hok _ z hz)) (mz_okS_tl (mz_okS_tl hos))) p e s m args below meth c A H locs ls ad ad0 n0 ok rep hl)
theorem mz_aast {a b N t ci : Nat} {g : Nat → Option Nat} {vs : List Value} {cl : vw_C} {i : Int32} (hd : decode cc pc = .ok (.aastore, 1)) (ha : f a = .inl (t, N, .inr (.inr (.inr (.inr g))))) (hb2 : f b = .inr (ci, vs)) (hc : nm_Cl[ci]? = some cl) (ht : nm_Ty[t]? = some (.object cl.1)) (hi : vp_in i N) (h : mz_X G X cn ini cc nL ret rm post thr (pc + 1) (l) (r) k1 k2 n (mz_u f a (.inl (t, N, .inr (.inr (.inr (.inr (va_up g i.toNatClampNeg (some b))))))))) : mz_X G X cn ini cc nL ret rm post thr (pc) (l) (.ref b :: .int i :: .ref a :: r) k1 k2 n (f) := by
  intro hk1 hk2 hol hos p e s m args below meth c A H locs ls ad ad0 n0 ok rep hl
  obtain ⟨hx, hb, hml, hr, hown, hin, hlocks, hts, hns, hK, hA⟩ := id ok
  obtain ⟨rP, rD, rS, rW, rN, rA, rX⟩ := id rep
  have hnd : f a ≠ mz_d := by rw [ha]; exact fun q => by cases q
  have hlt : a < n := mz_wf_lt rW hnd
  have hbl : b < n := by
    rcases mz_okS_hd hos with q | q
    · exact q
    · exfalso
      have h1 := rW.2.2 b (Nat.le_trans rW.1 q)
      rw [h1] at hb2
      have h2 : ci = 1000 := by injection hb2 with h2; injection h2 with h2; exact h2.symm
      rw [h2] at hc
      exact absurd hc nm_Cl_1000
  have hok := rW.2.1 a
  rw [ha] at hok
  have hg := mz_w_get (tA := G.2.2) (ad := ad) (f := f) hlt
  rw [ha] at hg
  have hgb := mz_w_get (tA := G.2.2) (ad := ad) (f := f) hbl
  rw [hb2] at hgb
  refine va_astq hx hb hK rP rD rS a t b ci hg (mz_ty_get ht) hgb hc hi hd (fun H1 locs1 hP1 hD1 hS1 => ?_)
  have eW := mz_w_set (tA := G.2.2) (ad := ad) (n := n) (f := f) (k := a) (.inl (t, N, .inr (.inr (.inr (.inr (va_up g i.toNatClampNeg (some b)))))))
  have eF : (fun j => (va_up g i.toNatClampNeg (some b) j).map ad) = va_up (fun j => (g j).map ad) i.toNatClampNeg (some (ad b)) := by
    funext j
    by_cases q : j = i.toNatClampNeg
    · simp [va_up, q]
    · simp [va_up, q]
  have eE : mz_e G.2.2 ad (.inl (t, N, .inr (.inr (.inr (.inr (va_up g i.toNatClampNeg (some b)))))) : mz_C) = .inl (G.2.2 t, N, .inr (.inr (.inr (.inr (va_up (fun j => (g j).map ad) i.toNatClampNeg (some (ad b))))))) := by
    rw [← eF]; rfl
  rw [eE] at eW
  exact h hk1 hk2 hol (mz_okS_tl (mz_okS_tl (mz_okS_tl hos))) p e s m args below meth c A H1 locs1 ls ad ad0 n0 ok ⟨by rw [← eW]; exact hP1, by rw [← eW]; exact hD1, hS1, mz_wf_u rW hnd (fun j z hz => by
    by_cases q : j = i.toNatClampNeg
    · simp [va_up, q] at hz; omega
    · simp [va_up, q] at hz; exact hok j z hz), rN, rA, rX⟩ hl
theorem mz_alen {a : Nat} {q : Nat × vp_A} {ty : FieldType} (hd : decode cc pc = .ok (.arraylength, 1)) (ha : f a = .inl q) (ht : nm_Ty[q.1]? = some ty) (h : mz_X G X cn ini cc nL ret rm post thr (pc + 1) (l) (.int (Int32.ofNat q.2.1) :: r) k1 k2 n (f)) : mz_X G X cn ini cc nL ret rm post thr (pc) (l) (.ref a :: r) k1 k2 n (f) := by
  intro hk1 hk2 hol hos p e s m args below meth c A H locs ls ad ad0 n0 ok rep hl
  obtain ⟨hx, hb, hml, hr, hown, hin, hlocks, hts, hns, hK, hA⟩ := id ok
  obtain ⟨rP, rD, rS, rW, rN, rA, rX⟩ := id rep
  have hlt : a < n := mz_wf_lt rW (by rw [ha]; exact fun q => by cases q)
  have hg := mz_w_get (tA := G.2.2) (ad := ad) (f := f) hlt
  rw [ha] at hg
  have hz : (mz_a ad q.2).1 = q.2.1 := by
    obtain ⟨t, N, g | g | g | g | g⟩ := q <;> rfl
  exact va_alen hx hb hK rP a q.1 hg (mz_ty_get ht) (by rw [hz]) hd (h hk1 hk2 hol (mz_okS_c trivial (mz_okS_tl hos)) p e s m args below meth c A H locs ls ad ad0 n0 ok rep hl)
theorem mz_xald {a N : Nat} {g : Nat → Int32} {i : Int32} (hd : decode cc pc = .ok (.iaload, 1)) (ha : X a = some (N, g)) (hi : vp_in i N) (h : mz_X G X cn ini cc nL ret rm post thr (pc + 1) (l) (.int (g i.toNatClampNeg) :: r) k1 k2 n (f)) : mz_X G X cn ini cc nL ret rm post thr (pc) (l) (.int i :: .ref a :: r) k1 k2 n (f) := by
  intro hk1 hk2 hol hos p e s m args below meth c A H locs ls ad ad0 n0 ok rep hl
  obtain ⟨hx, hb, hml, hr, hown, hin, hlocks, hts, hns, hK, hA⟩ := id ok
  obtain ⟨rP, rD, rS, rW, rN, rA, rX⟩ := id rep
  exact va_ti hx hb (rX.1 a N g ha).2 rS hi rfl hd (h hk1 hk2 hol (mz_okS_c trivial (mz_okS_tl (mz_okS_tl hos))) p e s m args below meth c A H locs ls ad ad0 n0 ok rep hl)
theorem mz_xlen {a N : Nat} {g : Nat → Int32} (hd : decode cc pc = .ok (.arraylength, 1)) (ha : X a = some (N, g)) (h : mz_X G X cn ini cc nL ret rm post thr (pc + 1) (l) (.int (Int32.ofNat N) :: r) k1 k2 n (f)) : mz_X G X cn ini cc nL ret rm post thr (pc) (l) (.ref a :: r) k1 k2 n (f) := by
  intro hk1 hk2 hol hos p e s m args below meth c A H locs ls ad ad0 n0 ok rep hl
  obtain ⟨hx, hb, hml, hr, hown, hin, hlocks, hts, hns, hK, hA⟩ := id ok
  obtain ⟨rP, rD, rS, rW, rN, rA, rX⟩ := id rep
  exact va_tlen hx hb (rX.1 a N g ha).2 rS rfl hd (h hk1 hk2 hol (mz_okS_c trivial (mz_okS_tl hos)) p e s m args below meth c A H locs ls ad ad0 n0 ok rep hl)
theorem mz_get {a ci k idx : Nat} {fs : List Value} {v : Value} (hd : decode cc pc = .ok (.getfield idx, 3)) (hF : nm_Fld cn idx = some (ci, k)) (ha : f a = .inr (ci, fs)) (hv : fs[k]? = some v) (h : mz_X G X cn ini cc nL ret rm post thr (pc + 3) (l) (v :: r) k1 k2 n (f)) : mz_X G X cn ini cc nL ret rm post thr (pc) (l) (.ref a :: r) k1 k2 n (f) := by
  intro hk1 hk2 hol hos p e s m args below meth c A H locs ls ad ad0 n0 ok rep hl
  obtain ⟨hx, hb, hml, hr, hown, hin, hlocks, hts, hns, hK, hA⟩ := id ok
  obtain ⟨rP, rD, rS, rW, rN, rA, rX⟩ := id rep
  obtain ⟨C, T, N, hc, hk, hl2⟩ := nm_Fld_ok hF
  have hnd : f a ≠ mz_d := by
    rw [ha]; intro q
    injection q with q; injection q with q1 q2
    rw [q2] at hv; cases hv
  have hlt : a < n := mz_wf_lt rW hnd
  have hok := rW.2.1 a
  rw [ha] at hok
  have hg := mz_w_get (tA := G.2.2) (ad := ad) (f := f) hlt
  rw [ha] at hg
  have hv2 : (fs.map (mz_v ad))[k]? = some (mz_v ad v) := by rw [List.getElem?_map, hv]; rfl
  rcases hl2 with hl2 | hl2
  · exact va_get hx hb hts (nm_Cl_ws hc) hown hK rP a hg hc k hk (hts _ hl2) (fun _ h9 => h9) hv2 hd (h hk1 hk2 hol (mz_okS_c (hok v (List.mem_of_getElem? hv)) (mz_okS_tl hos)) p e s m args below meth c A H locs ls ad ad0 n0 ok rep hl)
  · exact va_getN hx hb hts (nm_Cl_ws hc) hown hK rP a hg hc k hk (va_Nw.use rfl (hns _ hl2)) (fun _ h9 => h9) hv2 hd (h hk1 hk2 hol (mz_okS_c (hok v (List.mem_of_getElem? hv)) (mz_okS_tl hos)) p e s m args below meth c A H locs ls ad ad0 n0 ok rep hl)
theorem mz_put {a ci k idx : Nat} {fs : List Value} {v : Value} (hd : decode cc pc = .ok (.putfield idx, 3)) (hF : nm_Fld cn idx = some (ci, k)) (ha : f a = .inr (ci, fs)) (hkl : k < fs.length) (hfn : nm_Fin ci k = false) (hfit : mz_fit (nm_FTy ci k) v) (h : mz_X G X cn ini cc nL ret rm post thr (pc + 3) (l) (r) k1 k2 n (mz_u f a (.inr (ci, fs.set k v)))) : mz_X G X cn ini cc nL ret rm post thr (pc) (l) (v :: .ref a :: r) k1 k2 n (f) := by
  intro hk1 hk2 hol hos p e s m args below meth c A H locs ls ad ad0 n0 ok rep hl
  obtain ⟨hx, hb, hml, hr, hown, hin, hlocks, hts, hns, hK, hA⟩ := id ok
  obtain ⟨rP, rD, rS, rW, rN, rA, rX⟩ := id rep
  obtain ⟨C, T, N, hc, hk, hl2⟩ := nm_Fld_ok hF
  have hnd : f a ≠ mz_d := by
    rw [ha]; intro q
    injection q with q; injection q with q1 q2
    rw [q2] at hkl; exact absurd hkl (Nat.not_lt_zero _)
  have hlt : a < n := mz_wf_lt rW hnd
  have hok := rW.2.1 a
  rw [ha] at hok
  have hg := mz_w_get (tA := G.2.2) (ad := ad) (f := f) hlt
  rw [ha] at hg
  have hft := mz_fit_v ad hfit
  have eW := mz_w_set (tA := G.2.2) (ad := ad) (n := n) (f := f) (k := a) (.inr (ci, fs.set k v))
  have eE : mz_e G.2.2 ad (.inr (ci, fs.set k v) : mz_C) = .inr (ci, (fs.map (mz_v ad)).set k (mz_v ad v)) := by
    show Sum.inr (ci, (fs.set k v).map (mz_v ad)) = _
    rw [List.map_set]
  rw [eE] at eW
  have hkl2 : k < (fs.map (mz_v ad)).length := by rw [List.length_map]; exact hkl
  have kk : ∀ (H1 : Heap) (locs1 : List Loc), va_P G.2.1 nm_Cl ((mz_w G.2.2 ad n f).set a (ad a, .inr (ci, (fs.map (mz_v ad)).set k (mz_v ad v)))) H1 → va_D A ((mz_w G.2.2 ad n f).set a (ad a, .inr (ci, (fs.map (mz_v ad)).set k (mz_v ad v)))) → va_S A s.heap H1 locs1 → W p G.1 e rm s m args below meth c H1 locs1 k1 k2 (mz_Z G rm below A ad0 n0 post thr args s) (F0 m (pc + 3) ls (r.map (mz_v ad))) := by
    intro H1 locs1 hP1 hD1 hS1
    exact h hk1 hk2 hol (mz_okS_tl (mz_okS_tl hos)) p e s m args below meth c A H1 locs1 ls ad ad0 n0 ok ⟨by rw [← eW]; exact hP1, by rw [← eW]; exact hD1, hS1, mz_wf_u rW hnd (fun w hw => by
      rcases List.mem_or_eq_of_mem_set hw with q | q
      · exact hok w q
      · rw [q]; exact mz_okS_hd hos), rN, rA, rX⟩ hl
  have hfin : (T k).2.2.2 = false := (nm_Fin_ok hc hk).symm.trans hfn
  rcases hl2 with hl2 | hl2
  · exact va_put hx hb hts (nm_Cl_ws hc) (nm_FTy ci) (nm_Cl_ty hc) (nm_Cl_nm hc) hown hK rP rD rS a hg hc k hk (hts _ hl2) (fun _ h9 => h9) hfin (nm_Cl_ty hc k hk) hft.1 hft.2 hkl2 hd kk
  · exact va_putN hx hb hts (nm_Cl_ws hc) (nm_FTy ci) (nm_Cl_ty hc) (nm_Cl_nm hc) hown hK rP rD rS a hg hc k hk (va_Nw.use rfl (hns _ hl2)) (fun _ h9 => h9) hfin (nm_Cl_ty hc k hk) hft.1 hft.2 hkl2 hd kk
theorem mz_putF {a k idx : Nat} {fs : List Value} {v : Value} (hini : ini = true) (hd : decode cc pc = .ok (.putfield idx, 3)) (hF : nm_Fld cn idx = some (cn, k)) (hFl : nm_FldF cn idx = true) (ha : f a = .inr (cn, fs)) (hkl : k < fs.length) (hfn : nm_Fin cn k = true) (hfit : mz_fit (nm_FTy cn k) v) (h : mz_X G X cn ini cc nL ret rm post thr (pc + 3) (l) (r) k1 k2 n (mz_u f a (.inr (cn, fs.set k v)))) : mz_X G X cn ini cc nL ret rm post thr (pc) (l) (v :: .ref a :: r) k1 k2 n (f) := by
  intro hk1 hk2 hol hos p e s m args below meth c A H locs ls ad ad0 n0 ok rep hl
  obtain ⟨hx, hb, hml, hr, hown, hin, hlocks, hts, hns, hK, hA⟩ := id ok
  obtain ⟨rP, rD, rS, rW, rN, rA, rX⟩ := id rep
  obtain ⟨C, T, N, hc, hk, hl2⟩ := nm_FldF_ok hF hFl
  have hnd : f a ≠ mz_d := by
    rw [ha]; intro q
    injection q with q; injection q with q1 q2
    rw [q2] at hkl; exact absurd hkl (Nat.not_lt_zero _)
  have hlt : a < n := mz_wf_lt rW hnd
  have hok := rW.2.1 a
  rw [ha] at hok
  have hg := mz_w_get (tA := G.2.2) (ad := ad) (f := f) hlt
  rw [ha] at hg
  have hft := mz_fit_v ad hfit
  have eW := mz_w_set (tA := G.2.2) (ad := ad) (n := n) (f := f) (k := a) (.inr (cn, fs.set k v))
  have eE : mz_e G.2.2 ad (.inr (cn, fs.set k v) : mz_C) = .inr (cn, (fs.map (mz_v ad)).set k (mz_v ad v)) := by
    show Sum.inr (cn, (fs.set k v).map (mz_v ad)) = _
    rw [List.map_set]
  rw [eE] at eW
  have hkl2 : k < (fs.map (mz_v ad)).length := by rw [List.length_map]; exact hkl
  have kk : ∀ (H1 : Heap) (locs1 : List Loc), va_P G.2.1 nm_Cl ((mz_w G.2.2 ad n f).set a (ad a, .inr (cn, (fs.map (mz_v ad)).set k (mz_v ad v)))) H1 → va_D A ((mz_w G.2.2 ad n f).set a (ad a, .inr (cn, (fs.map (mz_v ad)).set k (mz_v ad v)))) → va_S A s.heap H1 locs1 → W p G.1 e rm s m args below meth c H1 locs1 k1 k2 (mz_Z G rm below A ad0 n0 post thr args s) (F0 m (pc + 3) ls (r.map (mz_v ad))) := by
    intro H1 locs1 hP1 hD1 hS1
    exact h hk1 hk2 hol (mz_okS_tl (mz_okS_tl hos)) p e s m args below meth c A H1 locs1 ls ad ad0 n0 ok ⟨by rw [← eW]; exact hP1, by rw [← eW]; exact hD1, hS1, mz_wf_u rW hnd (fun w hw => by
      rcases List.mem_or_eq_of_mem_set hw with q | q
      · exact hok w q
      · rw [q]; exact mz_okS_hd hos), rN, rA, rX⟩ hl
  have hfin : (T k).2.2.2 = true := (nm_Fin_ok hc hk).symm.trans hfn
  exact va_putF hx hb hts (nm_Cl_ws hc) (nm_FTy cn) (nm_Cl_ty hc) (nm_Cl_nm hc) hown hK rP rD rS a hg hc k hk (hts _ hl2) (fun _ h9 => h9) hfin (hin hini) (nm_Cl_own hc k hk) (nm_Cl_ty hc k hk) hft.1 hft.2 hkl2 hd kk
theorem mz_gets {a idx : Nat} (hd : decode cc pc = .ok (.getstatic idx, 3)) (hF : nm_Sta cn idx = some a) (hX : X a ≠ none) (h : mz_X G X cn ini cc nL ret rm post thr (pc + 3) (l) (.ref a :: r) k1 k2 n (f)) : mz_X G X cn ini cc nL ret rm post thr (pc) (l) (r) k1 k2 n (f) := by
  intro hk1 hk2 hol hos p e s m args below meth c A H locs ls ad ad0 n0 ok rep hl
  obtain ⟨hx, hb, hml, hr, hown, hin, hlocks, hts, hns, hK, hA⟩ := id ok
  obtain ⟨rP, rD, rS, rW, rN, rA, rX⟩ := id rep
  obtain ⟨q, hq, rfl, hl2⟩ := nm_Sta_ok hF
  have hz := rX.2 q hq hX
  have ha : mz_e0 ≤ q.1 := by
    cases hE : X q.1 with
    | none => exact absurd hE hX
    | some w => exact (rX.1 q.1 w.1 w.2 hE).1
  rcases hl2 with hl2 | hl2
  · exact va_gets hx hb hz rS hown (hts _ hl2) (fun _ h9 => h9) hd (h hk1 hk2 hol (mz_okS_c (Or.inr ha) hos) p e s m args below meth c A H locs ls ad ad0 n0 ok rep hl)
  · exact va_getsN hx hb hz rS hown (va_Nw.use rfl (hns _ hl2)) (fun _ h9 => h9) hd (h hk1 hk2 hol (mz_okS_c (Or.inr ha) hos) p e s m args below meth c A H locs ls ad ad0 n0 ok rep hl)
theorem mz_ldc {idx : Nat} {v : Int32} (hd : decode cc pc = .ok (.ldc idx, 2)) (hF : Jvm.Cond.constant (nm_Own cn) idx v ∈ nm_Ts) (h : mz_X G X cn ini cc nL ret rm post thr (pc + 2) (l) (.int v :: r) k1 k2 n (f)) : mz_X G X cn ini cc nL ret rm post thr (pc) (l) (r) k1 k2 n (f) := by
  intro hk1 hk2 hol hos p e s m args below meth c A H locs ls ad ad0 n0 ok rep hl
  obtain ⟨hx, hb, hml, hr, hown, hin, hlocks, hts, hns, hK, hA⟩ := id ok
  exact lv_ldc hx hb hown (hts _ hF) hd (h hk1 hk2 hol (mz_okS_c trivial hos) p e s m args below meth c A H locs ls ad ad0 n0 ok rep hl)
theorem mz_ldc2 {idx : Nat} {v : Int64} (hd : decode cc pc = .ok (.ldc2_w idx, 3)) (hF : Jvm.Cond.constantLong (nm_Own cn) idx v ∈ nm_Ts) (h : mz_X G X cn ini cc nL ret rm post thr (pc + 3) (l) (.long v :: r) k1 k2 n (f)) : mz_X G X cn ini cc nL ret rm post thr (pc) (l) (r) k1 k2 n (f) := by
  intro hk1 hk2 hol hos p e s m args below meth c A H locs ls ad ad0 n0 ok rep hl
  obtain ⟨hx, hb, hml, hr, hown, hin, hlocks, hts, hns, hK, hA⟩ := id ok
  exact lv_ldc2 hx hb hown (hts _ hF) hd (h hk1 hk2 hol (mz_okS_c trivial hos) p e s m args below meth c A H locs ls ad ad0 n0 ok rep hl)
end MZ
end
section
/-- what an instruction asks, and where it leads: calls, new cells, switches and throws aside -/
def mz_S (X : mz_E) (cn : Nat) (ini : Bool) (nL : Nat) (ret : Option FieldType) (ins : Jvm.ClassFile.Instr) (len pc : Nat) (l : mz_L) (st : List Value) (f : mz_H) (K : Nat → mz_L → List Value → mz_H → Prop) (P : Option Value → Prop) : Prop :=
  match ins with
  | .iconst i => len = 1 ∧ K (pc + 1) (l) (.int (Int32.ofInt i) :: st) (f)
  | .bipush i => len = 2 ∧ K (pc + 2) (l) (.int (Int8.ofInt i).toInt32 :: st) (f)
  | .sipush i => len = 3 ∧ K (pc + 3) (l) (.int (Int16.ofInt i).toInt32 :: st) (f)
  | .lconst i => len = 1 ∧ K (pc + 1) (l) (.long (Int64.ofNat (i : Nat)) :: st) (f)
  | .aconst_null => len = 1 ∧ K (pc + 1) (l) (.null :: st) (f)
  | .iadd => len = 1 ∧ (match st with
      | .int y :: .int x :: r => K (pc + 1) (l) (.int (x + y) :: r) (f)
      | _ => False)
  | .isub => len = 1 ∧ (match st with
      | .int y :: .int x :: r => K (pc + 1) (l) (.int (x - y) :: r) (f)
      | _ => False)
  | .imul => len = 1 ∧ (match st with
      | .int y :: .int x :: r => K (pc + 1) (l) (.int (x * y) :: r) (f)
      | _ => False)
  | .iand => len = 1 ∧ (match st with
      | .int y :: .int x :: r => K (pc + 1) (l) (.int (x &&& y) :: r) (f)
      | _ => False)
  | .ior => len = 1 ∧ (match st with
      | .int y :: .int x :: r => K (pc + 1) (l) (.int (x ||| y) :: r) (f)
      | _ => False)
  | .ixor => len = 1 ∧ (match st with
      | .int y :: .int x :: r => K (pc + 1) (l) (.int (x ^^^ y) :: r) (f)
      | _ => False)
  | .ishl => len = 1 ∧ (match st with
      | .int y :: .int x :: r => K (pc + 1) (l) (.int (x <<< (y &&& 31)) :: r) (f)
      | _ => False)
  | .ishr => len = 1 ∧ (match st with
      | .int y :: .int x :: r => K (pc + 1) (l) (.int (x >>> (y &&& 31)) :: r) (f)
      | _ => False)
  | .idiv => len = 1 ∧ (match st with
      | .int y :: .int x :: r => (¬ y = 0) ∧ K (pc + 1) (l) (.int (x / y) :: r) (f)
      | _ => False)
  | .irem => len = 1 ∧ (match st with
      | .int y :: .int x :: r => (¬ y = 0) ∧ K (pc + 1) (l) (.int (x - x / y * y) :: r) (f)
      | _ => False)
  | .ladd => len = 1 ∧ (match st with
      | .long y :: .long x :: r => K (pc + 1) (l) (.long (x + y) :: r) (f)
      | _ => False)
  | .lsub => len = 1 ∧ (match st with
      | .long y :: .long x :: r => K (pc + 1) (l) (.long (x - y) :: r) (f)
      | _ => False)
  | .lmul => len = 1 ∧ (match st with
      | .long y :: .long x :: r => K (pc + 1) (l) (.long (x * y) :: r) (f)
      | _ => False)
  | .land => len = 1 ∧ (match st with
      | .long y :: .long x :: r => K (pc + 1) (l) (.long (x &&& y) :: r) (f)
      | _ => False)
  | .lor => len = 1 ∧ (match st with
      | .long y :: .long x :: r => K (pc + 1) (l) (.long (x ||| y) :: r) (f)
      | _ => False)
  | .lxor => len = 1 ∧ (match st with
      | .long y :: .long x :: r => K (pc + 1) (l) (.long (x ^^^ y) :: r) (f)
      | _ => False)
  | .ldiv => len = 1 ∧ (match st with
      | .long y :: .long x :: r => (¬ y = 0) ∧ K (pc + 1) (l) (.long (x / y) :: r) (f)
      | _ => False)
  | .lrem => len = 1 ∧ (match st with
      | .long y :: .long x :: r => (¬ y = 0) ∧ K (pc + 1) (l) (.long (x - x / y * y) :: r) (f)
      | _ => False)
  | .lcmp => len = 1 ∧ (match st with
      | .long y :: .long x :: r => K (pc + 1) (l) (.int (lg_cmp x y) :: r) (f)
      | _ => False)
  | .lshl => len = 1 ∧ (match st with
      | .int y :: .long x :: r => K (pc + 1) (l) (.long (x <<< (y.toInt64 &&& 63)) :: r) (f)
      | _ => False)
  | .lshr => len = 1 ∧ (match st with
      | .int y :: .long x :: r => K (pc + 1) (l) (.long (x >>> (y.toInt64 &&& 63)) :: r) (f)
      | _ => False)
  | .lushr => len = 1 ∧ (match st with
      | .int y :: .long x :: r => K (pc + 1) (l) (.long (x.toUInt64 >>> (y.toInt64.toUInt64 &&& Int64.toUInt64 63)).toInt64 :: r) (f)
      | _ => False)
  | .ineg => len = 1 ∧ (match st with
      | .int x :: r => K (pc + 1) (l) (.int (-x) :: r) (f)
      | _ => False)
  | .i2l => len = 1 ∧ (match st with
      | .int x :: r => K (pc + 1) (l) (.long x.toInt64 :: r) (f)
      | _ => False)
  | .l2i => len = 1 ∧ (match st with
      | .long x :: r => K (pc + 1) (l) (.int x.toInt32 :: r) (f)
      | _ => False)
  | .i2b => len = 1 ∧ (match st with
      | .int x :: r => K (pc + 1) (l) (.int x.toInt8.toInt32 :: r) (f)
      | _ => False)
  | .i2s => len = 1 ∧ (match st with
      | .int x :: r => K (pc + 1) (l) (.int x.toInt16.toInt32 :: r) (f)
      | _ => False)
  | .dup => len = 1 ∧ (match st with
      | v :: r => v.category = 1 ∧ K (pc + 1) (l) (v :: v :: r) (f)
      | _ => False)
  | .pop => len = 1 ∧ (match st with
      | v :: r => v.category = 1 ∧ K (pc + 1) (l) (r) (f)
      | _ => False)
  | .dup_x1 => len = 1 ∧ (match st with
      | v :: w :: r => v.category = 1 ∧ w.category = 1 ∧ K (pc + 1) (l) (v :: w :: v :: r) (f)
      | _ => False)
  | .dup2 => len = 1 ∧ (match st with
      | v :: w :: r => v.category = 1 ∧ w.category = 1 ∧ K (pc + 1) (l) (v :: w :: v :: w :: r) (f)
      | _ => False)
  | .iload i => len = 2 ∧ (match l[i]? with
      | some (some (.int x)) => K (pc + 2) (l) (.int x :: st) (f)
      | _ => False)
  | .iload_n i => len = 1 ∧ (match l[i.val]? with
      | some (some (.int x)) => K (pc + 1) (l) (.int x :: st) (f)
      | _ => False)
  | .lload i => len = 2 ∧ (match l[i]? with
      | some (some (.long x)) => K (pc + 2) (l) (.long x :: st) (f)
      | _ => False)
  | .lload_n i => len = 1 ∧ (match l[i.val]? with
      | some (some (.long x)) => K (pc + 1) (l) (.long x :: st) (f)
      | _ => False)
  | .aload i => len = 2 ∧ (match l[i]? with
      | some (some (.ref x)) => K (pc + 2) (l) (.ref x :: st) (f)
      | some (some .null) => K (pc + 2) (l) (.null :: st) (f)
      | _ => False)
  | .aload_n i => len = 1 ∧ (match l[i.val]? with
      | some (some (.ref x)) => K (pc + 1) (l) (.ref x :: st) (f)
      | some (some .null) => K (pc + 1) (l) (.null :: st) (f)
      | _ => False)
  | .istore i => len = 2 ∧ i < nL ∧ (match st with
      | .int x :: r => K (pc + 2) (mz_s1 l i (.int x)) (r) (f)
      | _ => False)
  | .istore_n i => len = 1 ∧ i.val < nL ∧ (match st with
      | .int x :: r => K (pc + 1) (mz_s1 l i.val (.int x)) (r) (f)
      | _ => False)
  | .lstore i => len = 2 ∧ i + 1 < nL ∧ (match st with
      | .long x :: r => K (pc + 2) (mz_s2 l i (.long x)) (r) (f)
      | _ => False)
  | .lstore_n i => len = 1 ∧ i.val + 1 < nL ∧ (match st with
      | .long x :: r => K (pc + 1) (mz_s2 l i.val (.long x)) (r) (f)
      | _ => False)
  | .astore i => len = 2 ∧ i < nL ∧ (match st with
      | .ref x :: r => K (pc + 2) (mz_s1 l i (.ref x)) (r) (f)
      | .null :: r => K (pc + 2) (mz_s1 l i .null) (r) (f)
      | _ => False)
  | .astore_n i => len = 1 ∧ i.val < nL ∧ (match st with
      | .ref x :: r => K (pc + 1) (mz_s1 l i.val (.ref x)) (r) (f)
      | .null :: r => K (pc + 1) (mz_s1 l i.val .null) (r) (f)
      | _ => False)
  | .iinc i d => len = 3 ∧ i < nL ∧ (match l[i]? with
      | some (some (.int x)) => K (pc + 3) (mz_s1 l i (.int (x + Int32.ofInt d))) (st) (f)
      | _ => False)
  | .ifCond .eq off => len = 3 ∧ 0 ≤ (pc : Int) + off ∧ (match st with
      | .int x :: r => (x = 0 → K (mz_t pc off) (l) (r) (f)) ∧ (¬ x = 0 → K (pc + 3) (l) (r) (f))
      | _ => False)
  | .if_icmp .eq off => len = 3 ∧ 0 ≤ (pc : Int) + off ∧ (match st with
      | .int y :: .int x :: r => (x = y → K (mz_t pc off) (l) (r) (f)) ∧ (¬ x = y → K (pc + 3) (l) (r) (f))
      | _ => False)
  | .ifCond .ne off => len = 3 ∧ 0 ≤ (pc : Int) + off ∧ (match st with
      | .int x :: r => (¬ x = 0 → K (mz_t pc off) (l) (r) (f)) ∧ (x = 0 → K (pc + 3) (l) (r) (f))
      | _ => False)
  | .if_icmp .ne off => len = 3 ∧ 0 ≤ (pc : Int) + off ∧ (match st with
      | .int y :: .int x :: r => (¬ x = y → K (mz_t pc off) (l) (r) (f)) ∧ (x = y → K (pc + 3) (l) (r) (f))
      | _ => False)
  | .ifCond .lt off => len = 3 ∧ 0 ≤ (pc : Int) + off ∧ (match st with
      | .int x :: r => (x < 0 → K (mz_t pc off) (l) (r) (f)) ∧ (¬ x < 0 → K (pc + 3) (l) (r) (f))
      | _ => False)
  | .if_icmp .lt off => len = 3 ∧ 0 ≤ (pc : Int) + off ∧ (match st with
      | .int y :: .int x :: r => (x < y → K (mz_t pc off) (l) (r) (f)) ∧ (¬ x < y → K (pc + 3) (l) (r) (f))
      | _ => False)
  | .ifCond .ge off => len = 3 ∧ 0 ≤ (pc : Int) + off ∧ (match st with
      | .int x :: r => (0 ≤ x → K (mz_t pc off) (l) (r) (f)) ∧ (¬ 0 ≤ x → K (pc + 3) (l) (r) (f))
      | _ => False)
  | .if_icmp .ge off => len = 3 ∧ 0 ≤ (pc : Int) + off ∧ (match st with
      | .int y :: .int x :: r => (y ≤ x → K (mz_t pc off) (l) (r) (f)) ∧ (¬ y ≤ x → K (pc + 3) (l) (r) (f))
      | _ => False)
  | .ifCond .gt off => len = 3 ∧ 0 ≤ (pc : Int) + off ∧ (match st with
      | .int x :: r => (0 < x → K (mz_t pc off) (l) (r) (f)) ∧ (¬ 0 < x → K (pc + 3) (l) (r) (f))
      | _ => False)
  | .if_icmp .gt off => len = 3 ∧ 0 ≤ (pc : Int) + off ∧ (match st with
      | .int y :: .int x :: r => (y < x → K (mz_t pc off) (l) (r) (f)) ∧ (¬ y < x → K (pc + 3) (l) (r) (f))
      | _ => False)
  | .ifCond .le off => len = 3 ∧ 0 ≤ (pc : Int) + off ∧ (match st with
      | .int x :: r => (x ≤ 0 → K (mz_t pc off) (l) (r) (f)) ∧ (¬ x ≤ 0 → K (pc + 3) (l) (r) (f))
      | _ => False)
  | .if_icmp .le off => len = 3 ∧ 0 ≤ (pc : Int) + off ∧ (match st with
      | .int y :: .int x :: r => (x ≤ y → K (mz_t pc off) (l) (r) (f)) ∧ (¬ x ≤ y → K (pc + 3) (l) (r) (f))
      | _ => False)
  | .goto off => len = 3 ∧ 0 ≤ (pc : Int) + off ∧ K (mz_t pc off) (l) (st) (f)
  | .ifnull off => len = 3 ∧ (match st with
      | .ref _ :: r => K (pc + 3) (l) (r) (f)
      | .null :: r => 0 ≤ (pc : Int) + off ∧ K (mz_t pc off) (l) (r) (f)
      | _ => False)
  | .ifnonnull off => len = 3 ∧ (match st with
      | .ref _ :: r => 0 ≤ (pc : Int) + off ∧ K (mz_t pc off) (l) (r) (f)
      | .null :: r => K (pc + 3) (l) (r) (f)
      | _ => False)
  | .ireturn => len = 1 ∧ (match st, ret with
      | [.int x], some ty => narrow ty (.int x) = .int x ∧ P (some (.int x))
      | _, _ => False)
  | .lreturn => len = 1 ∧ (match st, ret with
      | [.long x], some .long => P (some (.long x))
      | _, _ => False)
  | .areturn => len = 1 ∧ (match st, ret with
      | [.ref x], some (.object _) => P (some (.ref x))
      | [.null], some (.object _) => P (some .null)
      | _, _ => False)
  | .return_ => len = 1 ∧ (match st, ret with
      | [], none => P none
      | _, _ => False)
  | .iaload => len = 1 ∧ (match st with
      | .int i :: .ref a :: r => (match f a with
        | .inl (0, N, .inl g) => vp_in i N ∧ K (pc + 1) (l) (.int (g i.toNatClampNeg) :: r) (f)
        | .inr _ => (match X a with
          | some (N, g) => vp_in i N ∧ K (pc + 1) (l) (.int (g i.toNatClampNeg) :: r) (f)
          | none => False)
        | _ => False)
      | _ => False)
  | .baload => len = 1 ∧ (match st with
      | .int i :: .ref a :: r => (match f a with
        | .inl (1, N, .inl g) => vp_in i N ∧ K (pc + 1) (l) (.int (g i.toNatClampNeg) :: r) (f)
        | _ => False)
      | _ => False)
  | .saload => len = 1 ∧ (match st with
      | .int i :: .ref a :: r => (match f a with
        | .inl (2, N, .inl g) => vp_in i N ∧ K (pc + 1) (l) (.int (g i.toNatClampNeg) :: r) (f)
        | _ => False)
      | _ => False)
  | .laload => len = 1 ∧ (match st with
      | .int i :: .ref a :: r => (match f a with
        | .inl (3, N, .inr (.inl g)) => vp_in i N ∧ K (pc + 1) (l) (.long (g i.toNatClampNeg) :: r) (f)
        | _ => False)
      | _ => False)
  | .iastore => len = 1 ∧ (match st with
      | .int x :: .int i :: .ref a :: r => (match f a with
        | .inl (0, N, .inl g) => vp_in i N ∧ K (pc + 1) (l) (r) (mz_u f a (.inl (0, N, .inl (upd g i.toNatClampNeg x))))
        | _ => False)
      | _ => False)
  | .bastore => len = 1 ∧ (match st with
      | .int x :: .int i :: .ref a :: r => (match f a with
        | .inl (1, N, .inl g) => vp_in i N ∧ K (pc + 1) (l) (r) (mz_u f a (.inl (1, N, .inl (upd g i.toNatClampNeg (vp_nar .byte x)))))
        | _ => False)
      | _ => False)
  | .sastore => len = 1 ∧ (match st with
      | .int x :: .int i :: .ref a :: r => (match f a with
        | .inl (2, N, .inl g) => vp_in i N ∧ K (pc + 1) (l) (r) (mz_u f a (.inl (2, N, .inl (upd g i.toNatClampNeg (vp_nar .short x)))))
        | _ => False)
      | _ => False)
  | .lastore => len = 1 ∧ (match st with
      | .long x :: .int i :: .ref a :: r => (match f a with
        | .inl (3, N, .inr (.inl g)) => vp_in i N ∧ K (pc + 1) (l) (r) (mz_u f a (.inl (3, N, .inr (.inl (vp_updL g i.toNatClampNeg x)))))
        | _ => False)
      | _ => False)
  | .aaload => len = 1 ∧ (match st with
      | .int i :: .ref a :: r => (match f a with
        | .inl (t, N, .inr (.inr (.inr (.inr g)))) => vp_in i N ∧ (match nm_Ty[t]? with
          | some ty => ty.isReference = true ∧ K (pc + 1) (l) (va_rf (g i.toNatClampNeg) :: r) (f)
          | none => False)
        | _ => False)
      | _ => False)
  | .aastore => len = 1 ∧ (match st with
      | .ref b :: .int i :: .ref a :: r => (match f a with
        | .inl (t, N, .inr (.inr (.inr (.inr g)))) => vp_in i N ∧ (match f b with
          | .inr (ci, _) => (match nm_Cl[ci]? with
            | some cl => nm_Ty[t]? = some (.object cl.1) ∧ K (pc + 1) (l) (r) (mz_u f a (.inl (t, N, .inr (.inr (.inr (.inr (va_up g i.toNatClampNeg (some b))))))))
            | none => False)
          | _ => False)
        | _ => False)
      | _ => False)
  | .arraylength => len = 1 ∧ (match st with
      | .ref a :: r => (match f a with
        | .inl q => (match nm_Ty[q.1]? with
          | some _ => K (pc + 1) (l) (.int (Int32.ofNat q.2.1) :: r) (f)
          | none => False)
        | .inr _ => (match X a with
          | some (N, _) => K (pc + 1) (l) (.int (Int32.ofNat N) :: r) (f)
          | none => False))
      | _ => False)
  | .getfield idx => len = 3 ∧ (match st with
      | .ref a :: r => (match nm_Fld cn idx with
        | some (ci, k) => (match f a with
          | .inr (ci', fs) => ci' = ci ∧ (match fs[k]? with
            | some v => K (pc + 3) (l) (v :: r) (f)
            | none => False)
          | _ => False)
        | none => False)
      | _ => False)
  | .putfield idx => len = 3 ∧ (match st with
      | v :: .ref a :: r => (match nm_Fld cn idx with
        | some (ci, k) => (match f a with
          | .inr (ci', fs) => ci' = ci ∧ k < fs.length ∧ mz_fit (nm_FTy ci k) v ∧ (nm_Fin ci k = false ∨ nm_Fin ci k = true ∧ ini = true ∧ ci = cn ∧ nm_FldF cn idx = true) ∧ K (pc + 3) (l) (r) (mz_u f a (.inr (ci, fs.set k v)))
          | _ => False)
        | none => False)
      | _ => False)
  | .getstatic idx => len = 3 ∧ (match nm_Sta cn idx with
      | some a => X a ≠ none ∧ K (pc + 3) (l) (.ref a :: st) (f)
      | none => False)
  | .ldc idx => len = 2 ∧ (match nm_Con cn idx with
      | some v => K (pc + 2) (l) (.int v :: st) (f)
      | none => False)
  | .ldc2_w idx => len = 3 ∧ (match nm_ConL cn idx with
      | some v => K (pc + 3) (l) (.long v :: st) (f)
      | none => False)
  | _ => False
section MZ2
variable {G : mz_G} {X : mz_E} {cn : Nat} {ini : Bool} {cc : ByteArray} {nL : Nat} {ret : Option FieldType} {rm : Room} {post : Option Value → Nat → mz_H → Prop} {thr : String → Nat → mz_H → Prop} {pc : Nat} {l : mz_L} {st : List Value} {k1 k2 n : Nat} {f : mz_H}
set_option maxHeartbeats 4000000 in
theorem mz_step {ins : Jvm.ClassFile.Instr} {len : Nat} {K : Nat → mz_L → List Value → mz_H → Prop} {P : Option Value → Prop} (hd : decode cc pc = .ok (ins, len)) (hK : ∀ pc' l' st' f', K pc' l' st' f' → mz_X G X cn ini cc nL ret rm post thr pc' l' st' k1 k2 n f') (hP : ∀ v, P v → post v n f) (h : mz_S X cn ini nL ret ins len pc l st f K P) : mz_X G X cn ini cc nL ret rm post thr pc l st k1 k2 n f := by
  unfold mz_S at h
  split at h
  · obtain ⟨rfl, h⟩ := h
    exact mz_iconst hd (hK _ _ _ _ h)
  · obtain ⟨rfl, h⟩ := h
    exact mz_bipush hd (hK _ _ _ _ h)
  · obtain ⟨rfl, h⟩ := h
    exact mz_sipush hd (hK _ _ _ _ h)
  · obtain ⟨rfl, h⟩ := h
    exact mz_lconst hd (hK _ _ _ _ h)
  · obtain ⟨rfl, h⟩ := h
    exact mz_null hd (hK _ _ _ _ h)
  · obtain ⟨rfl, h⟩ := h
    split at h
    · exact mz_iadd hd (hK _ _ _ _ h)
    · exact h.elim
  · obtain ⟨rfl, h⟩ := h
    split at h
    · exact mz_isub hd (hK _ _ _ _ h)
    · exact h.elim
  · obtain ⟨rfl, h⟩ := h
    split at h
    · exact mz_imul hd (hK _ _ _ _ h)
    · exact h.elim
  · obtain ⟨rfl, h⟩ := h
    split at h
    · exact mz_iand hd (hK _ _ _ _ h)
    · exact h.elim
  · obtain ⟨rfl, h⟩ := h
    split at h
    · exact mz_ior hd (hK _ _ _ _ h)
    · exact h.elim
  · obtain ⟨rfl, h⟩ := h
    split at h
    · exact mz_ixor hd (hK _ _ _ _ h)
    · exact h.elim
  · obtain ⟨rfl, h⟩ := h
    split at h
    · exact mz_ishl hd (hK _ _ _ _ h)
    · exact h.elim
  · obtain ⟨rfl, h⟩ := h
    split at h
    · exact mz_ishr hd (hK _ _ _ _ h)
    · exact h.elim
  · obtain ⟨rfl, h⟩ := h
    split at h
    · exact mz_idiv hd h.1 (hK _ _ _ _ h.2)
    · exact h.elim
  · obtain ⟨rfl, h⟩ := h
    split at h
    · exact mz_irem hd h.1 (hK _ _ _ _ h.2)
    · exact h.elim
  · obtain ⟨rfl, h⟩ := h
    split at h
    · exact mz_ladd hd (hK _ _ _ _ h)
    · exact h.elim
  · obtain ⟨rfl, h⟩ := h
    split at h
    · exact mz_lsub hd (hK _ _ _ _ h)
    · exact h.elim
  · obtain ⟨rfl, h⟩ := h
    split at h
    · exact mz_lmul hd (hK _ _ _ _ h)
    · exact h.elim
  · obtain ⟨rfl, h⟩ := h
    split at h
    · exact mz_land hd (hK _ _ _ _ h)
    · exact h.elim
  · obtain ⟨rfl, h⟩ := h
    split at h
    · exact mz_lor hd (hK _ _ _ _ h)
    · exact h.elim
  · obtain ⟨rfl, h⟩ := h
    split at h
    · exact mz_lxor hd (hK _ _ _ _ h)
    · exact h.elim
  · obtain ⟨rfl, h⟩ := h
    split at h
    · exact mz_ldiv hd h.1 (hK _ _ _ _ h.2)
    · exact h.elim
  · obtain ⟨rfl, h⟩ := h
    split at h
    · exact mz_lrem hd h.1 (hK _ _ _ _ h.2)
    · exact h.elim
  · obtain ⟨rfl, h⟩ := h
    split at h
    · exact mz_lcmp hd (hK _ _ _ _ h)
    · exact h.elim
  · obtain ⟨rfl, h⟩ := h
    split at h
    · exact mz_lshl hd (hK _ _ _ _ h)
    · exact h.elim
  · obtain ⟨rfl, h⟩ := h
    split at h
    · exact mz_lshr hd (hK _ _ _ _ h)
    · exact h.elim
  · obtain ⟨rfl, h⟩ := h
    split at h
    · exact mz_lushr hd (hK _ _ _ _ h)
    · exact h.elim
  · obtain ⟨rfl, h⟩ := h
    split at h
    · exact mz_ineg hd (hK _ _ _ _ h)
    · exact h.elim
  · obtain ⟨rfl, h⟩ := h
    split at h
    · exact mz_i2l hd (hK _ _ _ _ h)
    · exact h.elim
  · obtain ⟨rfl, h⟩ := h
    split at h
    · exact mz_l2i hd (hK _ _ _ _ h)
    · exact h.elim
  · obtain ⟨rfl, h⟩ := h
    split at h
    · exact mz_i2b hd (hK _ _ _ _ h)
    · exact h.elim
  · obtain ⟨rfl, h⟩ := h
    split at h
    · exact mz_i2s hd (hK _ _ _ _ h)
    · exact h.elim
  · obtain ⟨rfl, h⟩ := h
    split at h
    · exact mz_dup hd h.1 (hK _ _ _ _ h.2)
    · exact h.elim
  · obtain ⟨rfl, h⟩ := h
    split at h
    · exact mz_pop hd h.1 (hK _ _ _ _ h.2)
    · exact h.elim
  · obtain ⟨rfl, h⟩ := h
    split at h
    · exact mz_dup_x1 hd h.1 h.2.1 (hK _ _ _ _ h.2.2)
    · exact h.elim
  · obtain ⟨rfl, h⟩ := h
    split at h
    · exact mz_dup2 hd h.1 h.2.1 (hK _ _ _ _ h.2.2)
    · exact h.elim
  · obtain ⟨rfl, h⟩ := h
    split at h
    · rename_i hi
      exact mz_iload hd hi (hK _ _ _ _ h)
    · exact h.elim
  · obtain ⟨rfl, h⟩ := h
    split at h
    · rename_i hi
      exact mz_iload_n hd hi (hK _ _ _ _ h)
    · exact h.elim
  · obtain ⟨rfl, h⟩ := h
    split at h
    · rename_i hi
      exact mz_lload hd hi (hK _ _ _ _ h)
    · exact h.elim
  · obtain ⟨rfl, h⟩ := h
    split at h
    · rename_i hi
      exact mz_lload_n hd hi (hK _ _ _ _ h)
    · exact h.elim
  · obtain ⟨rfl, h⟩ := h
    split at h
    · rename_i hi
      exact mz_aload hd hi (hK _ _ _ _ h)
    · rename_i hi
      exact mz_aloadN hd hi (hK _ _ _ _ h)
    · exact h.elim
  · obtain ⟨rfl, h⟩ := h
    split at h
    · rename_i hi
      exact mz_aload_n hd hi (hK _ _ _ _ h)
    · rename_i hi
      exact mz_aload_nN hd hi (hK _ _ _ _ h)
    · exact h.elim
  · obtain ⟨rfl, hn, h⟩ := h
    split at h
    · exact mz_istore hd hn (hK _ _ _ _ h)
    · exact h.elim
  · obtain ⟨rfl, hn, h⟩ := h
    split at h
    · exact mz_istore_n hd hn (hK _ _ _ _ h)
    · exact h.elim
  · obtain ⟨rfl, hn, h⟩ := h
    split at h
    · exact mz_lstore hd hn (hK _ _ _ _ h)
    · exact h.elim
  · obtain ⟨rfl, hn, h⟩ := h
    split at h
    · exact mz_lstore_n hd hn (hK _ _ _ _ h)
    · exact h.elim
  · obtain ⟨rfl, hn, h⟩ := h
    split at h
    · exact mz_astore hd hn (hK _ _ _ _ h)
    · exact mz_astoreN hd hn (hK _ _ _ _ h)
    · exact h.elim
  · obtain ⟨rfl, hn, h⟩ := h
    split at h
    · exact mz_astore_n hd hn (hK _ _ _ _ h)
    · exact mz_astore_nN hd hn (hK _ _ _ _ h)
    · exact h.elim
  · obtain ⟨rfl, hn, h⟩ := h
    split at h
    · rename_i hi
      exact mz_iinc hd hi hn (hK _ _ _ _ h)
    · exact h.elim
  · obtain ⟨rfl, h0, h⟩ := h
    split at h
    · exact mz_if_eq hd h0 (fun q => hK _ _ _ _ (h.1 q)) (fun q => hK _ _ _ _ (h.2 q))
    · exact h.elim
  · obtain ⟨rfl, h0, h⟩ := h
    split at h
    · exact mz_icmp_eq hd h0 (fun q => hK _ _ _ _ (h.1 q)) (fun q => hK _ _ _ _ (h.2 q))
    · exact h.elim
  · obtain ⟨rfl, h0, h⟩ := h
    split at h
    · exact mz_if_ne hd h0 (fun q => hK _ _ _ _ (h.1 q)) (fun q => hK _ _ _ _ (h.2 q))
    · exact h.elim
  · obtain ⟨rfl, h0, h⟩ := h
    split at h
    · exact mz_icmp_ne hd h0 (fun q => hK _ _ _ _ (h.1 q)) (fun q => hK _ _ _ _ (h.2 q))
    · exact h.elim
  · obtain ⟨rfl, h0, h⟩ := h
    split at h
    · exact mz_if_lt hd h0 (fun q => hK _ _ _ _ (h.1 q)) (fun q => hK _ _ _ _ (h.2 q))
    · exact h.elim
  · obtain ⟨rfl, h0, h⟩ := h
    split at h
    · exact mz_icmp_lt hd h0 (fun q => hK _ _ _ _ (h.1 q)) (fun q => hK _ _ _ _ (h.2 q))
    · exact h.elim
  · obtain ⟨rfl, h0, h⟩ := h
    split at h
    · exact mz_if_ge hd h0 (fun q => hK _ _ _ _ (h.1 q)) (fun q => hK _ _ _ _ (h.2 q))
    · exact h.elim
  · obtain ⟨rfl, h0, h⟩ := h
    split at h
    · exact mz_icmp_ge hd h0 (fun q => hK _ _ _ _ (h.1 q)) (fun q => hK _ _ _ _ (h.2 q))
    · exact h.elim
  · obtain ⟨rfl, h0, h⟩ := h
    split at h
    · exact mz_if_gt hd h0 (fun q => hK _ _ _ _ (h.1 q)) (fun q => hK _ _ _ _ (h.2 q))
    · exact h.elim
  · obtain ⟨rfl, h0, h⟩ := h
    split at h
    · exact mz_icmp_gt hd h0 (fun q => hK _ _ _ _ (h.1 q)) (fun q => hK _ _ _ _ (h.2 q))
    · exact h.elim
  · obtain ⟨rfl, h0, h⟩ := h
    split at h
    · exact mz_if_le hd h0 (fun q => hK _ _ _ _ (h.1 q)) (fun q => hK _ _ _ _ (h.2 q))
    · exact h.elim
  · obtain ⟨rfl, h0, h⟩ := h
    split at h
    · exact mz_icmp_le hd h0 (fun q => hK _ _ _ _ (h.1 q)) (fun q => hK _ _ _ _ (h.2 q))
    · exact h.elim
  · obtain ⟨rfl, h0, h⟩ := h
    exact mz_goto hd h0 (hK _ _ _ _ h)
  · obtain ⟨rfl, h⟩ := h
    split at h
    · exact mz_ifnull hd (hK _ _ _ _ h)
    · exact mz_ifnullN hd h.1 (hK _ _ _ _ h.2)
    · exact h.elim
  · obtain ⟨rfl, h⟩ := h
    split at h
    · exact mz_ifnonnull hd h.1 (hK _ _ _ _ h.2)
    · exact mz_ifnonnullN hd (hK _ _ _ _ h)
    · exact h.elim
  · obtain ⟨rfl, h⟩ := h
    split at h
    · exact mz_ireturn hd rfl h.1 (hP _ h.2)
    · exact h.elim
  · obtain ⟨rfl, h⟩ := h
    split at h
    · exact mz_lreturn hd rfl (hP _ h)
    · exact h.elim
  · obtain ⟨rfl, h⟩ := h
    split at h
    · exact mz_areturn hd rfl (Or.inl ⟨_, rfl⟩) (Or.inr ⟨_, rfl⟩) (hP _ h)
    · exact mz_areturn hd rfl (Or.inl ⟨_, rfl⟩) (Or.inl rfl) (hP _ h)
    · exact h.elim
  · obtain ⟨rfl, h⟩ := h
    split at h
    · exact mz_return hd rfl (hP _ h)
    · exact h.elim
  · obtain ⟨rfl, h⟩ := h
    split at h
    · split at h
      · rename_i ha
        exact mz_iald hd ha h.1 (hK _ _ _ _ h.2)
      · split at h
        · rename_i ha
          exact mz_xald hd ha h.1 (hK _ _ _ _ h.2)
        · exact h.elim
      · exact h.elim
    · exact h.elim
  · obtain ⟨rfl, h⟩ := h
    split at h
    · split at h
      · rename_i ha
        exact mz_bald hd ha h.1 (hK _ _ _ _ h.2)
      · exact h.elim
    · exact h.elim
  · obtain ⟨rfl, h⟩ := h
    split at h
    · split at h
      · rename_i ha
        exact mz_sald hd ha h.1 (hK _ _ _ _ h.2)
      · exact h.elim
    · exact h.elim
  · obtain ⟨rfl, h⟩ := h
    split at h
    · split at h
      · rename_i ha
        exact mz_lald hd ha h.1 (hK _ _ _ _ h.2)
      · exact h.elim
    · exact h.elim
  · obtain ⟨rfl, h⟩ := h
    split at h
    · split at h
      · rename_i ha
        exact mz_iast hd ha h.1 (hK _ _ _ _ h.2)
      · exact h.elim
    · exact h.elim
  · obtain ⟨rfl, h⟩ := h
    split at h
    · split at h
      · rename_i ha
        exact mz_bast hd ha h.1 (hK _ _ _ _ h.2)
      · exact h.elim
    · exact h.elim
  · obtain ⟨rfl, h⟩ := h
    split at h
    · split at h
      · rename_i ha
        exact mz_sast hd ha h.1 (hK _ _ _ _ h.2)
      · exact h.elim
    · exact h.elim
  · obtain ⟨rfl, h⟩ := h
    split at h
    · split at h
      · rename_i ha
        exact mz_last hd ha h.1 (hK _ _ _ _ h.2)
      · exact h.elim
    · exact h.elim
  · obtain ⟨rfl, h⟩ := h
    split at h
    · split at h
      · rename_i ha
        obtain ⟨h1, h⟩ := h
        split at h
        · rename_i ht
          exact mz_aald hd ha ht h.1 h1 (hK _ _ _ _ h.2)
        · exact h.elim
      · exact h.elim
    · exact h.elim
  · obtain ⟨rfl, h⟩ := h
    split at h
    · split at h
      · rename_i ha
        obtain ⟨h1, h⟩ := h
        split at h
        · rename_i hb2
          split at h
          · rename_i hc
            exact mz_aast hd ha hb2 hc h.1 h1 (hK _ _ _ _ h.2)
          · exact h.elim
        · exact h.elim
      · exact h.elim
    · exact h.elim
  · obtain ⟨rfl, h⟩ := h
    split at h
    · split at h
      · rename_i ha
        split at h
        · rename_i ht
          exact mz_alen hd ha ht (hK _ _ _ _ h)
        · exact h.elim
      · split at h
        · rename_i ha
          exact mz_xlen hd ha (hK _ _ _ _ h)
        · exact h.elim
    · exact h.elim
  · obtain ⟨rfl, h⟩ := h
    split at h
    · split at h
      · rename_i hF
        split at h
        · rename_i ha
          obtain ⟨rfl, h⟩ := h
          split at h
          · rename_i hv
            exact mz_get hd hF ha hv (hK _ _ _ _ h)
          · exact h.elim
        · exact h.elim
      · exact h.elim
    · exact h.elim
  · obtain ⟨rfl, h⟩ := h
    split at h
    · split at h
      · rename_i hF
        split at h
        · rename_i ha
          obtain ⟨rfl, h1, h2, h3, h⟩ := h
          rcases h3 with h3 | ⟨h3, h4, rfl, h5⟩
          · exact mz_put hd hF ha h1 h3 h2 (hK _ _ _ _ h)
          · exact mz_putF h4 hd hF h5 ha h1 h3 h2 (hK _ _ _ _ h)
        · exact h.elim
      · exact h.elim
    · exact h.elim
  · obtain ⟨rfl, h⟩ := h
    split at h
    · rename_i hF
      exact mz_gets hd hF h.1 (hK _ _ _ _ h.2)
    · exact h.elim
  · obtain ⟨rfl, h⟩ := h
    split at h
    · rename_i hF
      exact mz_ldc hd (nm_Con_ok hF) (hK _ _ _ _ h)
    · exact h.elim
  · obtain ⟨rfl, h⟩ := h
    split at h
    · rename_i hF
      exact mz_ldc2 hd (nm_ConL_ok hF) (hK _ _ _ _ h)
    · exact h.elim
  · exact h.elim
/-- k steps, or until a place of S is come to -/
def mz_run (X : mz_E) (cn : Nat) (ini : Bool) (cc : ByteArray) (nL : Nat) (ret : Option FieldType) (S : List Nat) (K : Nat → mz_L → List Value → mz_H → Prop) (P : Option Value → mz_H → Prop) : Nat → Nat → mz_L → List Value → mz_H → Prop
  | 0, pc, l, st, f => K pc l st f
  | k + 1, pc, l, st, f => match decode cc pc with
    | .ok q => mz_S X cn ini nL ret q.1 q.2 pc l st f (fun pc' l' st' f' => if pc' ∈ S then K pc' l' st' f' else mz_run X cn ini cc nL ret S K P k pc' l' st' f') (fun v => P v f)
    | .error _ => False
theorem mz_go (S : List Nat) (k : Nat) (h : mz_run X cn ini cc nL ret S (fun pc' l' st' f' => mz_X G X cn ini cc nL ret rm post thr pc' l' st' k1 k2 n f') (fun v f' => post v n f') k pc l st f) : mz_X G X cn ini cc nL ret rm post thr pc l st k1 k2 n f := by
  induction k generalizing pc l st f with
  | zero => exact h
  | succ k ih =>
    unfold mz_run at h
    split at h
    · rename_i q hd
      refine mz_step hd ?_ (fun v hv => hv) h
      intro pc' l' st' f' hh
      split at hh
      · exact hh
      · exact ih hh
    · exact h.elim
end MZ2
section MZEV
variable {X : mz_E} {cn : Nat} {ini : Bool} {nL : Nat} {ret : Option FieldType} {pc : Nat} {l : mz_L} {st : List Value} {f : mz_H} {K : Nat → mz_L → List Value → mz_H → Prop} {P : Option Value → Prop}
theorem ev_0 {i : Int} : mz_S X cn ini nL ret (.iconst i) 1 pc l st f K P = (K (pc + 1) (l) (.int (Int32.ofInt i) :: st) (f)) := propext ⟨fun h => h.2, fun h => ⟨rfl, h⟩⟩
theorem ev_1 {i : Int} : mz_S X cn ini nL ret (.bipush i) 2 pc l st f K P = (K (pc + 2) (l) (.int (Int8.ofInt i).toInt32 :: st) (f)) := propext ⟨fun h => h.2, fun h => ⟨rfl, h⟩⟩
theorem ev_2 {i : Int} : mz_S X cn ini nL ret (.sipush i) 3 pc l st f K P = (K (pc + 3) (l) (.int (Int16.ofInt i).toInt32 :: st) (f)) := propext ⟨fun h => h.2, fun h => ⟨rfl, h⟩⟩
theorem ev_3 {i : Fin 2} : mz_S X cn ini nL ret (.lconst i) 1 pc l st f K P = (K (pc + 1) (l) (.long (Int64.ofNat (i : Nat)) :: st) (f)) := propext ⟨fun h => h.2, fun h => ⟨rfl, h⟩⟩
theorem ev_4 : mz_S X cn ini nL ret (.aconst_null) 1 pc l st f K P = (K (pc + 1) (l) (.null :: st) (f)) := propext ⟨fun h => h.2, fun h => ⟨rfl, h⟩⟩
theorem ev_5 : mz_S X cn ini nL ret (.iadd) 1 pc l st f K P = ((match st with
      | .int y :: .int x :: r => K (pc + 1) (l) (.int (x + y) :: r) (f)
      | _ => False)) := propext ⟨fun h => h.2, fun h => ⟨rfl, h⟩⟩
theorem ev_6 : mz_S X cn ini nL ret (.isub) 1 pc l st f K P = ((match st with
      | .int y :: .int x :: r => K (pc + 1) (l) (.int (x - y) :: r) (f)
      | _ => False)) := propext ⟨fun h => h.2, fun h => ⟨rfl, h⟩⟩
theorem ev_7 : mz_S X cn ini nL ret (.imul) 1 pc l st f K P = ((match st with
      | .int y :: .int x :: r => K (pc + 1) (l) (.int (x * y) :: r) (f)
      | _ => False)) := propext ⟨fun h => h.2, fun h => ⟨rfl, h⟩⟩
theorem ev_8 : mz_S X cn ini nL ret (.iand) 1 pc l st f K P = ((match st with
      | .int y :: .int x :: r => K (pc + 1) (l) (.int (x &&& y) :: r) (f)
      | _ => False)) := propext ⟨fun h => h.2, fun h => ⟨rfl, h⟩⟩
theorem ev_9 : mz_S X cn ini nL ret (.ior) 1 pc l st f K P = ((match st with
      | .int y :: .int x :: r => K (pc + 1) (l) (.int (x ||| y) :: r) (f)
      | _ => False)) := propext ⟨fun h => h.2, fun h => ⟨rfl, h⟩⟩
theorem ev_10 : mz_S X cn ini nL ret (.ixor) 1 pc l st f K P = ((match st with
      | .int y :: .int x :: r => K (pc + 1) (l) (.int (x ^^^ y) :: r) (f)
      | _ => False)) := propext ⟨fun h => h.2, fun h => ⟨rfl, h⟩⟩
theorem ev_11 : mz_S X cn ini nL ret (.ishl) 1 pc l st f K P = ((match st with
      | .int y :: .int x :: r => K (pc + 1) (l) (.int (x <<< (y &&& 31)) :: r) (f)
      | _ => False)) := propext ⟨fun h => h.2, fun h => ⟨rfl, h⟩⟩
theorem ev_12 : mz_S X cn ini nL ret (.ishr) 1 pc l st f K P = ((match st with
      | .int y :: .int x :: r => K (pc + 1) (l) (.int (x >>> (y &&& 31)) :: r) (f)
      | _ => False)) := propext ⟨fun h => h.2, fun h => ⟨rfl, h⟩⟩
theorem ev_13 : mz_S X cn ini nL ret (.idiv) 1 pc l st f K P = ((match st with
      | .int y :: .int x :: r => (¬ y = 0) ∧ K (pc + 1) (l) (.int (x / y) :: r) (f)
      | _ => False)) := propext ⟨fun h => h.2, fun h => ⟨rfl, h⟩⟩
theorem ev_14 : mz_S X cn ini nL ret (.irem) 1 pc l st f K P = ((match st with
      | .int y :: .int x :: r => (¬ y = 0) ∧ K (pc + 1) (l) (.int (x - x / y * y) :: r) (f)
      | _ => False)) := propext ⟨fun h => h.2, fun h => ⟨rfl, h⟩⟩
theorem ev_15 : mz_S X cn ini nL ret (.ladd) 1 pc l st f K P = ((match st with
      | .long y :: .long x :: r => K (pc + 1) (l) (.long (x + y) :: r) (f)
      | _ => False)) := propext ⟨fun h => h.2, fun h => ⟨rfl, h⟩⟩
theorem ev_16 : mz_S X cn ini nL ret (.lsub) 1 pc l st f K P = ((match st with
      | .long y :: .long x :: r => K (pc + 1) (l) (.long (x - y) :: r) (f)
      | _ => False)) := propext ⟨fun h => h.2, fun h => ⟨rfl, h⟩⟩
theorem ev_17 : mz_S X cn ini nL ret (.lmul) 1 pc l st f K P = ((match st with
      | .long y :: .long x :: r => K (pc + 1) (l) (.long (x * y) :: r) (f)
      | _ => False)) := propext ⟨fun h => h.2, fun h => ⟨rfl, h⟩⟩
theorem ev_18 : mz_S X cn ini nL ret (.land) 1 pc l st f K P = ((match st with
      | .long y :: .long x :: r => K (pc + 1) (l) (.long (x &&& y) :: r) (f)
      | _ => False)) := propext ⟨fun h => h.2, fun h => ⟨rfl, h⟩⟩
theorem ev_19 : mz_S X cn ini nL ret (.lor) 1 pc l st f K P = ((match st with
      | .long y :: .long x :: r => K (pc + 1) (l) (.long (x ||| y) :: r) (f)
      | _ => False)) := propext ⟨fun h => h.2, fun h => ⟨rfl, h⟩⟩
theorem ev_20 : mz_S X cn ini nL ret (.lxor) 1 pc l st f K P = ((match st with
      | .long y :: .long x :: r => K (pc + 1) (l) (.long (x ^^^ y) :: r) (f)
      | _ => False)) := propext ⟨fun h => h.2, fun h => ⟨rfl, h⟩⟩
theorem ev_21 : mz_S X cn ini nL ret (.ldiv) 1 pc l st f K P = ((match st with
      | .long y :: .long x :: r => (¬ y = 0) ∧ K (pc + 1) (l) (.long (x / y) :: r) (f)
      | _ => False)) := propext ⟨fun h => h.2, fun h => ⟨rfl, h⟩⟩
theorem ev_22 : mz_S X cn ini nL ret (.lrem) 1 pc l st f K P = ((match st with
      | .long y :: .long x :: r => (¬ y = 0) ∧ K (pc + 1) (l) (.long (x - x / y * y) :: r) (f)
      | _ => False)) := propext ⟨fun h => h.2, fun h => ⟨rfl, h⟩⟩
theorem ev_23 : mz_S X cn ini nL ret (.lcmp) 1 pc l st f K P = ((match st with
      | .long y :: .long x :: r => K (pc + 1) (l) (.int (lg_cmp x y) :: r) (f)
      | _ => False)) := propext ⟨fun h => h.2, fun h => ⟨rfl, h⟩⟩
theorem ev_24 : mz_S X cn ini nL ret (.lshl) 1 pc l st f K P = ((match st with
      | .int y :: .long x :: r => K (pc + 1) (l) (.long (x <<< (y.toInt64 &&& 63)) :: r) (f)
      | _ => False)) := propext ⟨fun h => h.2, fun h => ⟨rfl, h⟩⟩
theorem ev_25 : mz_S X cn ini nL ret (.lshr) 1 pc l st f K P = ((match st with
      | .int y :: .long x :: r => K (pc + 1) (l) (.long (x >>> (y.toInt64 &&& 63)) :: r) (f)
      | _ => False)) := propext ⟨fun h => h.2, fun h => ⟨rfl, h⟩⟩
theorem ev_26 : mz_S X cn ini nL ret (.lushr) 1 pc l st f K P = ((match st with
      | .int y :: .long x :: r => K (pc + 1) (l) (.long (x.toUInt64 >>> (y.toInt64.toUInt64 &&& Int64.toUInt64 63)).toInt64 :: r) (f)
      | _ => False)) := propext ⟨fun h => h.2, fun h => ⟨rfl, h⟩⟩
theorem ev_27 : mz_S X cn ini nL ret (.ineg) 1 pc l st f K P = ((match st with
      | .int x :: r => K (pc + 1) (l) (.int (-x) :: r) (f)
      | _ => False)) := propext ⟨fun h => h.2, fun h => ⟨rfl, h⟩⟩
theorem ev_28 : mz_S X cn ini nL ret (.i2l) 1 pc l st f K P = ((match st with
      | .int x :: r => K (pc + 1) (l) (.long x.toInt64 :: r) (f)
      | _ => False)) := propext ⟨fun h => h.2, fun h => ⟨rfl, h⟩⟩
theorem ev_29 : mz_S X cn ini nL ret (.l2i) 1 pc l st f K P = ((match st with
      | .long x :: r => K (pc + 1) (l) (.int x.toInt32 :: r) (f)
      | _ => False)) := propext ⟨fun h => h.2, fun h => ⟨rfl, h⟩⟩
theorem ev_30 : mz_S X cn ini nL ret (.i2b) 1 pc l st f K P = ((match st with
      | .int x :: r => K (pc + 1) (l) (.int x.toInt8.toInt32 :: r) (f)
      | _ => False)) := propext ⟨fun h => h.2, fun h => ⟨rfl, h⟩⟩
theorem ev_31 : mz_S X cn ini nL ret (.i2s) 1 pc l st f K P = ((match st with
      | .int x :: r => K (pc + 1) (l) (.int x.toInt16.toInt32 :: r) (f)
      | _ => False)) := propext ⟨fun h => h.2, fun h => ⟨rfl, h⟩⟩
theorem ev_32 : mz_S X cn ini nL ret (.dup) 1 pc l st f K P = ((match st with
      | v :: r => v.category = 1 ∧ K (pc + 1) (l) (v :: v :: r) (f)
      | _ => False)) := propext ⟨fun h => h.2, fun h => ⟨rfl, h⟩⟩
theorem ev_33 : mz_S X cn ini nL ret (.pop) 1 pc l st f K P = ((match st with
      | v :: r => v.category = 1 ∧ K (pc + 1) (l) (r) (f)
      | _ => False)) := propext ⟨fun h => h.2, fun h => ⟨rfl, h⟩⟩
theorem ev_34 : mz_S X cn ini nL ret (.dup_x1) 1 pc l st f K P = ((match st with
      | v :: w :: r => v.category = 1 ∧ w.category = 1 ∧ K (pc + 1) (l) (v :: w :: v :: r) (f)
      | _ => False)) := propext ⟨fun h => h.2, fun h => ⟨rfl, h⟩⟩
theorem ev_35 : mz_S X cn ini nL ret (.dup2) 1 pc l st f K P = ((match st with
      | v :: w :: r => v.category = 1 ∧ w.category = 1 ∧ K (pc + 1) (l) (v :: w :: v :: w :: r) (f)
      | _ => False)) := propext ⟨fun h => h.2, fun h => ⟨rfl, h⟩⟩
theorem ev_36 {i : Nat} : mz_S X cn ini nL ret (.iload i) 2 pc l st f K P = ((match l[i]? with
      | some (some (.int x)) => K (pc + 2) (l) (.int x :: st) (f)
      | _ => False)) := propext ⟨fun h => h.2, fun h => ⟨rfl, h⟩⟩
theorem ev_37 {i : Fin 4} : mz_S X cn ini nL ret (.iload_n i) 1 pc l st f K P = ((match l[i.val]? with
      | some (some (.int x)) => K (pc + 1) (l) (.int x :: st) (f)
      | _ => False)) := propext ⟨fun h => h.2, fun h => ⟨rfl, h⟩⟩
theorem ev_38 {i : Nat} : mz_S X cn ini nL ret (.lload i) 2 pc l st f K P = ((match l[i]? with
      | some (some (.long x)) => K (pc + 2) (l) (.long x :: st) (f)
      | _ => False)) := propext ⟨fun h => h.2, fun h => ⟨rfl, h⟩⟩
theorem ev_39 {i : Fin 4} : mz_S X cn ini nL ret (.lload_n i) 1 pc l st f K P = ((match l[i.val]? with
      | some (some (.long x)) => K (pc + 1) (l) (.long x :: st) (f)
      | _ => False)) := propext ⟨fun h => h.2, fun h => ⟨rfl, h⟩⟩
theorem ev_40 {i : Nat} : mz_S X cn ini nL ret (.aload i) 2 pc l st f K P = ((match l[i]? with
      | some (some (.ref x)) => K (pc + 2) (l) (.ref x :: st) (f)
      | some (some .null) => K (pc + 2) (l) (.null :: st) (f)
      | _ => False)) := propext ⟨fun h => h.2, fun h => ⟨rfl, h⟩⟩
theorem ev_41 {i : Fin 4} : mz_S X cn ini nL ret (.aload_n i) 1 pc l st f K P = ((match l[i.val]? with
      | some (some (.ref x)) => K (pc + 1) (l) (.ref x :: st) (f)
      | some (some .null) => K (pc + 1) (l) (.null :: st) (f)
      | _ => False)) := propext ⟨fun h => h.2, fun h => ⟨rfl, h⟩⟩
theorem ev_42 {i : Nat} : mz_S X cn ini nL ret (.istore i) 2 pc l st f K P = (i < nL ∧ (match st with
      | .int x :: r => K (pc + 2) (mz_s1 l i (.int x)) (r) (f)
      | _ => False)) := propext ⟨fun h => h.2, fun h => ⟨rfl, h⟩⟩
theorem ev_43 {i : Fin 4} : mz_S X cn ini nL ret (.istore_n i) 1 pc l st f K P = (i.val < nL ∧ (match st with
      | .int x :: r => K (pc + 1) (mz_s1 l i.val (.int x)) (r) (f)
      | _ => False)) := propext ⟨fun h => h.2, fun h => ⟨rfl, h⟩⟩
theorem ev_44 {i : Nat} : mz_S X cn ini nL ret (.lstore i) 2 pc l st f K P = (i + 1 < nL ∧ (match st with
      | .long x :: r => K (pc + 2) (mz_s2 l i (.long x)) (r) (f)
      | _ => False)) := propext ⟨fun h => h.2, fun h => ⟨rfl, h⟩⟩
theorem ev_45 {i : Fin 4} : mz_S X cn ini nL ret (.lstore_n i) 1 pc l st f K P = (i.val + 1 < nL ∧ (match st with
      | .long x :: r => K (pc + 1) (mz_s2 l i.val (.long x)) (r) (f)
      | _ => False)) := propext ⟨fun h => h.2, fun h => ⟨rfl, h⟩⟩
theorem ev_46 {i : Nat} : mz_S X cn ini nL ret (.astore i) 2 pc l st f K P = (i < nL ∧ (match st with
      | .ref x :: r => K (pc + 2) (mz_s1 l i (.ref x)) (r) (f)
      | .null :: r => K (pc + 2) (mz_s1 l i .null) (r) (f)
      | _ => False)) := propext ⟨fun h => h.2, fun h => ⟨rfl, h⟩⟩
theorem ev_47 {i : Fin 4} : mz_S X cn ini nL ret (.astore_n i) 1 pc l st f K P = (i.val < nL ∧ (match st with
      | .ref x :: r => K (pc + 1) (mz_s1 l i.val (.ref x)) (r) (f)
      | .null :: r => K (pc + 1) (mz_s1 l i.val .null) (r) (f)
      | _ => False)) := propext ⟨fun h => h.2, fun h => ⟨rfl, h⟩⟩
theorem ev_48 {i : Nat} {d : Int} : mz_S X cn ini nL ret (.iinc i d) 3 pc l st f K P = (i < nL ∧ (match l[i]? with
      | some (some (.int x)) => K (pc + 3) (mz_s1 l i (.int (x + Int32.ofInt d))) (st) (f)
      | _ => False)) := propext ⟨fun h => h.2, fun h => ⟨rfl, h⟩⟩
theorem ev_49 {off : Int} : mz_S X cn ini nL ret (.ifCond .eq off) 3 pc l st f K P = (0 ≤ (pc : Int) + off ∧ (match st with
      | .int x :: r => (x = 0 → K (mz_t pc off) (l) (r) (f)) ∧ (¬ x = 0 → K (pc + 3) (l) (r) (f))
      | _ => False)) := propext ⟨fun h => h.2, fun h => ⟨rfl, h⟩⟩
theorem ev_50 {off : Int} : mz_S X cn ini nL ret (.if_icmp .eq off) 3 pc l st f K P = (0 ≤ (pc : Int) + off ∧ (match st with
      | .int y :: .int x :: r => (x = y → K (mz_t pc off) (l) (r) (f)) ∧ (¬ x = y → K (pc + 3) (l) (r) (f))
      | _ => False)) := propext ⟨fun h => h.2, fun h => ⟨rfl, h⟩⟩
theorem ev_51 {off : Int} : mz_S X cn ini nL ret (.ifCond .ne off) 3 pc l st f K P = (0 ≤ (pc : Int) + off ∧ (match st with
      | .int x :: r => (¬ x = 0 → K (mz_t pc off) (l) (r) (f)) ∧ (x = 0 → K (pc + 3) (l) (r) (f))
      | _ => False)) := propext ⟨fun h => h.2, fun h => ⟨rfl, h⟩⟩
theorem ev_52 {off : Int} : mz_S X cn ini nL ret (.if_icmp .ne off) 3 pc l st f K P = (0 ≤ (pc : Int) + off ∧ (match st with
      | .int y :: .int x :: r => (¬ x = y → K (mz_t pc off) (l) (r) (f)) ∧ (x = y → K (pc + 3) (l) (r) (f))
      | _ => False)) := propext ⟨fun h => h.2, fun h => ⟨rfl, h⟩⟩
theorem ev_53 {off : Int} : mz_S X cn ini nL ret (.ifCond .lt off) 3 pc l st f K P = (0 ≤ (pc : Int) + off ∧ (match st with
      | .int x :: r => (x < 0 → K (mz_t pc off) (l) (r) (f)) ∧ (¬ x < 0 → K (pc + 3) (l) (r) (f))
      | _ => False)) := propext ⟨fun h => h.2, fun h => ⟨rfl, h⟩⟩
theorem ev_54 {off : Int} : mz_S X cn ini nL ret (.if_icmp .lt off) 3 pc l st f K P = (0 ≤ (pc : Int) + off ∧ (match st with
      | .int y :: .int x :: r => (x < y → K (mz_t pc off) (l) (r) (f)) ∧ (¬ x < y → K (pc + 3) (l) (r) (f))
      | _ => False)) := propext ⟨fun h => h.2, fun h => ⟨rfl, h⟩⟩
theorem ev_55 {off : Int} : mz_S X cn ini nL ret (.ifCond .ge off) 3 pc l st f K P = (0 ≤ (pc : Int) + off ∧ (match st with
      | .int x :: r => (0 ≤ x → K (mz_t pc off) (l) (r) (f)) ∧ (¬ 0 ≤ x → K (pc + 3) (l) (r) (f))
      | _ => False)) := propext ⟨fun h => h.2, fun h => ⟨rfl, h⟩⟩
theorem ev_56 {off : Int} : mz_S X cn ini nL ret (.if_icmp .ge off) 3 pc l st f K P = (0 ≤ (pc : Int) + off ∧ (match st with
      | .int y :: .int x :: r => (y ≤ x → K (mz_t pc off) (l) (r) (f)) ∧ (¬ y ≤ x → K (pc + 3) (l) (r) (f))
      | _ => False)) := propext ⟨fun h => h.2, fun h => ⟨rfl, h⟩⟩
theorem ev_57 {off : Int} : mz_S X cn ini nL ret (.ifCond .gt off) 3 pc l st f K P = (0 ≤ (pc : Int) + off ∧ (match st with
      | .int x :: r => (0 < x → K (mz_t pc off) (l) (r) (f)) ∧ (¬ 0 < x → K (pc + 3) (l) (r) (f))
      | _ => False)) := propext ⟨fun h => h.2, fun h => ⟨rfl, h⟩⟩
theorem ev_58 {off : Int} : mz_S X cn ini nL ret (.if_icmp .gt off) 3 pc l st f K P = (0 ≤ (pc : Int) + off ∧ (match st with
      | .int y :: .int x :: r => (y < x → K (mz_t pc off) (l) (r) (f)) ∧ (¬ y < x → K (pc + 3) (l) (r) (f))
      | _ => False)) := propext ⟨fun h => h.2, fun h => ⟨rfl, h⟩⟩
theorem ev_59 {off : Int} : mz_S X cn ini nL ret (.ifCond .le off) 3 pc l st f K P = (0 ≤ (pc : Int) + off ∧ (match st with
      | .int x :: r => (x ≤ 0 → K (mz_t pc off) (l) (r) (f)) ∧ (¬ x ≤ 0 → K (pc + 3) (l) (r) (f))
      | _ => False)) := propext ⟨fun h => h.2, fun h => ⟨rfl, h⟩⟩
theorem ev_60 {off : Int} : mz_S X cn ini nL ret (.if_icmp .le off) 3 pc l st f K P = (0 ≤ (pc : Int) + off ∧ (match st with
      | .int y :: .int x :: r => (x ≤ y → K (mz_t pc off) (l) (r) (f)) ∧ (¬ x ≤ y → K (pc + 3) (l) (r) (f))
      | _ => False)) := propext ⟨fun h => h.2, fun h => ⟨rfl, h⟩⟩
theorem ev_61 {off : Int} : mz_S X cn ini nL ret (.goto off) 3 pc l st f K P = (0 ≤ (pc : Int) + off ∧ K (mz_t pc off) (l) (st) (f)) := propext ⟨fun h => h.2, fun h => ⟨rfl, h⟩⟩
theorem ev_62 {off : Int} : mz_S X cn ini nL ret (.ifnull off) 3 pc l st f K P = ((match st with
      | .ref _ :: r => K (pc + 3) (l) (r) (f)
      | .null :: r => 0 ≤ (pc : Int) + off ∧ K (mz_t pc off) (l) (r) (f)
      | _ => False)) := propext ⟨fun h => h.2, fun h => ⟨rfl, h⟩⟩
theorem ev_63 {off : Int} : mz_S X cn ini nL ret (.ifnonnull off) 3 pc l st f K P = ((match st with
      | .ref _ :: r => 0 ≤ (pc : Int) + off ∧ K (mz_t pc off) (l) (r) (f)
      | .null :: r => K (pc + 3) (l) (r) (f)
      | _ => False)) := propext ⟨fun h => h.2, fun h => ⟨rfl, h⟩⟩
theorem ev_64 : mz_S X cn ini nL ret (.ireturn) 1 pc l st f K P = ((match st, ret with
      | [.int x], some ty => narrow ty (.int x) = .int x ∧ P (some (.int x))
      | _, _ => False)) := propext ⟨fun h => h.2, fun h => ⟨rfl, h⟩⟩
theorem ev_65 : mz_S X cn ini nL ret (.lreturn) 1 pc l st f K P = ((match st, ret with
      | [.long x], some .long => P (some (.long x))
      | _, _ => False)) := propext ⟨fun h => h.2, fun h => ⟨rfl, h⟩⟩
theorem ev_66 : mz_S X cn ini nL ret (.areturn) 1 pc l st f K P = ((match st, ret with
      | [.ref x], some (.object _) => P (some (.ref x))
      | [.null], some (.object _) => P (some .null)
      | _, _ => False)) := propext ⟨fun h => h.2, fun h => ⟨rfl, h⟩⟩
theorem ev_67 : mz_S X cn ini nL ret (.return_) 1 pc l st f K P = ((match st, ret with
      | [], none => P none
      | _, _ => False)) := propext ⟨fun h => h.2, fun h => ⟨rfl, h⟩⟩
theorem ev_68 : mz_S X cn ini nL ret (.iaload) 1 pc l st f K P = ((match st with
      | .int i :: .ref a :: r => (match f a with
        | .inl (0, N, .inl g) => vp_in i N ∧ K (pc + 1) (l) (.int (g i.toNatClampNeg) :: r) (f)
        | .inr _ => (match X a with
          | some (N, g) => vp_in i N ∧ K (pc + 1) (l) (.int (g i.toNatClampNeg) :: r) (f)
          | none => False)
        | _ => False)
      | _ => False)) := propext ⟨fun h => h.2, fun h => ⟨rfl, h⟩⟩
theorem ev_69 : mz_S X cn ini nL ret (.baload) 1 pc l st f K P = ((match st with
      | .int i :: .ref a :: r => (match f a with
        | .inl (1, N, .inl g) => vp_in i N ∧ K (pc + 1) (l) (.int (g i.toNatClampNeg) :: r) (f)
        | _ => False)
      | _ => False)) := propext ⟨fun h => h.2, fun h => ⟨rfl, h⟩⟩
theorem ev_70 : mz_S X cn ini nL ret (.saload) 1 pc l st f K P = ((match st with
      | .int i :: .ref a :: r => (match f a with
        | .inl (2, N, .inl g) => vp_in i N ∧ K (pc + 1) (l) (.int (g i.toNatClampNeg) :: r) (f)
        | _ => False)
      | _ => False)) := propext ⟨fun h => h.2, fun h => ⟨rfl, h⟩⟩
theorem ev_71 : mz_S X cn ini nL ret (.laload) 1 pc l st f K P = ((match st with
      | .int i :: .ref a :: r => (match f a with
        | .inl (3, N, .inr (.inl g)) => vp_in i N ∧ K (pc + 1) (l) (.long (g i.toNatClampNeg) :: r) (f)
        | _ => False)
      | _ => False)) := propext ⟨fun h => h.2, fun h => ⟨rfl, h⟩⟩
theorem ev_72 : mz_S X cn ini nL ret (.iastore) 1 pc l st f K P = ((match st with
      | .int x :: .int i :: .ref a :: r => (match f a with
        | .inl (0, N, .inl g) => vp_in i N ∧ K (pc + 1) (l) (r) (mz_u f a (.inl (0, N, .inl (upd g i.toNatClampNeg x))))
        | _ => False)
      | _ => False)) := propext ⟨fun h => h.2, fun h => ⟨rfl, h⟩⟩
theorem ev_73 : mz_S X cn ini nL ret (.bastore) 1 pc l st f K P = ((match st with
      | .int x :: .int i :: .ref a :: r => (match f a with
        | .inl (1, N, .inl g) => vp_in i N ∧ K (pc + 1) (l) (r) (mz_u f a (.inl (1, N, .inl (upd g i.toNatClampNeg (vp_nar .byte x)))))
        | _ => False)
      | _ => False)) := propext ⟨fun h => h.2, fun h => ⟨rfl, h⟩⟩
theorem ev_74 : mz_S X cn ini nL ret (.sastore) 1 pc l st f K P = ((match st with
      | .int x :: .int i :: .ref a :: r => (match f a with
        | .inl (2, N, .inl g) => vp_in i N ∧ K (pc + 1) (l) (r) (mz_u f a (.inl (2, N, .inl (upd g i.toNatClampNeg (vp_nar .short x)))))
        | _ => False)
      | _ => False)) := propext ⟨fun h => h.2, fun h => ⟨rfl, h⟩⟩
theorem ev_75 : mz_S X cn ini nL ret (.lastore) 1 pc l st f K P = ((match st with
      | .long x :: .int i :: .ref a :: r => (match f a with
        | .inl (3, N, .inr (.inl g)) => vp_in i N ∧ K (pc + 1) (l) (r) (mz_u f a (.inl (3, N, .inr (.inl (vp_updL g i.toNatClampNeg x)))))
        | _ => False)
      | _ => False)) := propext ⟨fun h => h.2, fun h => ⟨rfl, h⟩⟩
theorem ev_76 : mz_S X cn ini nL ret (.aaload) 1 pc l st f K P = ((match st with
      | .int i :: .ref a :: r => (match f a with
        | .inl (t, N, .inr (.inr (.inr (.inr g)))) => vp_in i N ∧ (match nm_Ty[t]? with
          | some ty => ty.isReference = true ∧ K (pc + 1) (l) (va_rf (g i.toNatClampNeg) :: r) (f)
          | none => False)
        | _ => False)
      | _ => False)) := propext ⟨fun h => h.2, fun h => ⟨rfl, h⟩⟩
theorem ev_77 : mz_S X cn ini nL ret (.aastore) 1 pc l st f K P = ((match st with
      | .ref b :: .int i :: .ref a :: r => (match f a with
        | .inl (t, N, .inr (.inr (.inr (.inr g)))) => vp_in i N ∧ (match f b with
          | .inr (ci, _) => (match nm_Cl[ci]? with
            | some cl => nm_Ty[t]? = some (.object cl.1) ∧ K (pc + 1) (l) (r) (mz_u f a (.inl (t, N, .inr (.inr (.inr (.inr (va_up g i.toNatClampNeg (some b))))))))
            | none => False)
          | _ => False)
        | _ => False)
      | _ => False)) := propext ⟨fun h => h.2, fun h => ⟨rfl, h⟩⟩
theorem ev_78 : mz_S X cn ini nL ret (.arraylength) 1 pc l st f K P = ((match st with
      | .ref a :: r => (match f a with
        | .inl q => (match nm_Ty[q.1]? with
          | some _ => K (pc + 1) (l) (.int (Int32.ofNat q.2.1) :: r) (f)
          | none => False)
        | .inr _ => (match X a with
          | some (N, _) => K (pc + 1) (l) (.int (Int32.ofNat N) :: r) (f)
          | none => False))
      | _ => False)) := propext ⟨fun h => h.2, fun h => ⟨rfl, h⟩⟩
theorem ev_79 {idx : Nat} : mz_S X cn ini nL ret (.getfield idx) 3 pc l st f K P = ((match st with
      | .ref a :: r => (match nm_Fld cn idx with
        | some (ci, k) => (match f a with
          | .inr (ci', fs) => ci' = ci ∧ (match fs[k]? with
            | some v => K (pc + 3) (l) (v :: r) (f)
            | none => False)
          | _ => False)
        | none => False)
      | _ => False)) := propext ⟨fun h => h.2, fun h => ⟨rfl, h⟩⟩
theorem ev_80 {idx : Nat} : mz_S X cn ini nL ret (.putfield idx) 3 pc l st f K P = ((match st with
      | v :: .ref a :: r => (match nm_Fld cn idx with
        | some (ci, k) => (match f a with
          | .inr (ci', fs) => ci' = ci ∧ k < fs.length ∧ mz_fit (nm_FTy ci k) v ∧ (nm_Fin ci k = false ∨ nm_Fin ci k = true ∧ ini = true ∧ ci = cn ∧ nm_FldF cn idx = true) ∧ K (pc + 3) (l) (r) (mz_u f a (.inr (ci, fs.set k v)))
          | _ => False)
        | none => False)
      | _ => False)) := propext ⟨fun h => h.2, fun h => ⟨rfl, h⟩⟩
theorem ev_81 {idx : Nat} : mz_S X cn ini nL ret (.getstatic idx) 3 pc l st f K P = ((match nm_Sta cn idx with
      | some a => X a ≠ none ∧ K (pc + 3) (l) (.ref a :: st) (f)
      | none => False)) := propext ⟨fun h => h.2, fun h => ⟨rfl, h⟩⟩
theorem ev_82 {idx : Nat} : mz_S X cn ini nL ret (.ldc idx) 2 pc l st f K P = ((match nm_Con cn idx with
      | some v => K (pc + 2) (l) (.int v :: st) (f)
      | none => False)) := propext ⟨fun h => h.2, fun h => ⟨rfl, h⟩⟩
theorem ev_83 {idx : Nat} : mz_S X cn ini nL ret (.ldc2_w idx) 3 pc l st f K P = ((match nm_ConL cn idx with
      | some v => K (pc + 3) (l) (.long v :: st) (f)
      | none => False)) := propext ⟨fun h => h.2, fun h => ⟨rfl, h⟩⟩
end MZEV
end
section
/-! contracts over the machine, and calls -/
def mz_ws (y : MethodName) (cc : ByteArray) (nL : Nat) (ret : Option FieldType) : List Cond := .code y cc nL ret :: nm_Ts
def mz_la (vs : List Value) : mz_L := vs.flatMap (fun v => if v.category = 2 then [some v, none] else [some v])
def mz_l0 (nL : Nat) (vs : List Value) : mz_L := mz_la vs ++ List.replicate (nL - (mz_la vs).length) none
def mz_sl (ad : Nat → Nat) (o : Option Value) : Slot := match o with
  | some v => .val (mz_v ad v)
  | none => .second
theorem mz_sl_eq (ad : Nat → Nat) (vs : List Value) : lg_sl (vs.map (mz_v ad)) = (mz_la vs).map (mz_sl ad) := by
  induction vs with
  | nil => rfl
  | cons v vs ih =>
    show (if (mz_v ad v).category = 2 then [Slot.val (mz_v ad v), Slot.second] else [Slot.val (mz_v ad v)]) ++ lg_sl (vs.map (mz_v ad)) = ((if v.category = 2 then [some v, none] else [some v]) ++ mz_la vs).map (mz_sl ad)
    rw [ih, mz_v_cat, List.map_append]
    split <;> rfl
theorem mz_lv0 {ad : Nat → Nat} {nL : Nat} {vs : List Value} (h : (mz_la vs).length ≤ nL) : mz_lv ad (lg_sl (vs.map (mz_v ad)) ++ List.replicate (nL - (lg_sl (vs.map (mz_v ad))).length) Slot.unset).toArray nL (mz_l0 nL vs) := by
  have h0 := lv_entry (vs.map (mz_v ad)) (n := nL) (by rw [mz_sl_eq, List.length_map]; exact h)
  refine ⟨h0.1, h0.2.1, fun q hq => ?_⟩
  obtain ⟨j, w⟩ := q
  obtain ⟨x, h1, rfl⟩ := mz_pr_mem.mp hq
  unfold mz_l0 at h1
  by_cases hj : j < (mz_la vs).length
  · rw [List.getElem?_append_left hj] at h1
    show (lg_sl (vs.map (mz_v ad)) ++ List.replicate (nL - (lg_sl (vs.map (mz_v ad))).length) Slot.unset).toArray[j]? = some (.val (mz_v ad x))
    rw [List.getElem?_toArray, mz_sl_eq, List.getElem?_append_left (by rw [List.length_map]; exact hj), List.getElem?_map, h1]
    rfl
  · rw [List.getElem?_append_right (by omega)] at h1
    have := List.eq_of_mem_replicate (List.mem_of_getElem? h1)
    cases this
theorem mz_la_mem {v : Value} {vs : List Value} (h : some v ∈ mz_la vs) : v ∈ vs := by
  obtain ⟨w, hw, h2⟩ := List.mem_flatMap.mp h
  split at h2
  · rcases List.mem_cons.mp h2 with q | q
    · cases q; exact hw
    · rcases List.mem_cons.mp q with q | q
      · cases q
      · cases q
  · rcases List.mem_cons.mp h2 with q | q
    · cases q; exact hw
    · cases q
theorem mz_okL0 {n nL : Nat} {vs : List Value} (h : mz_okS n vs) : mz_okL n (mz_l0 nL vs) := by
  intro v hv
  rcases List.mem_append.mp hv with q | q
  · exact h v (mz_la_mem q)
  · have := List.eq_of_mem_replicate q
    cases this
def mz_pc (G : mz_G) (X : mz_E) (ad : Nat → Nat) (sz : Nat) (vs : List Value) (n : Nat) (f : mz_H) : Array Value → State → Prop :=
  va_Pc (vs.map (mz_v ad)) (fun U => U.heap.size = sz ∧ va_P G.2.1 nm_Cl (mz_w G.2.2 ad n f) U.heap ∧ va_K G.2.1 nm_Cl (mz_ty G.2.2) U ∧ va_D (fun _ => True) (mz_w G.2.2 ad n f) ∧ (∀ w ∈ nm_Ns, va_Nw w U) ∧ mz_xt ad (va_A (mz_w G.2.2 ad n f) sz) X U U.heap)
/-- the method y, called with vs over the cells (n, f), comes back, and 'post' holds of its answer and the cells then -/
def mz_Ct (G : mz_G) (X : mz_E) (y : MethodName) (cc : ByteArray) (nL : Nat) (ret : Option FieldType) (rm : Room) (vs : List Value) (n : Nat) (f : mz_H) (post : Option Value → Nat → mz_H → Prop) : Prop :=
  ∀ (ad : Nat → Nat) (sz : Nat), mz_wf n f → mz_okS n vs → Met G.1 y (mz_ws y cc nL ret) rm (mz_pc G X ad sz vs n f) (mz_q G (va_A (mz_w G.2.2 ad n f) sz) ad n post) rm.cells rm.slots (va_A (mz_w G.2.2 ad n f) sz)
theorem mz_Ct_of {G : mz_G} {X : mz_E} {y : MethodName} {cc : ByteArray} {nL : Nat} {ret : Option FieldType} {rm : Room} {vs : List Value} {n : Nat} {f : mz_H} {post : Option Value → Nat → mz_H → Prop} (cn : Nat) (ini : Bool) (hy : plainName y.cls = true) (hcn : y.cls = nm_Own cn) (hin : ini = true → y.name = "<init>") (hlen : (mz_la vs).length ≤ nL)
    (h : mz_X G X cn ini cc nL ret rm post (fun _ _ _ => False) 0 (mz_l0 nL vs) [] 0 0 n f) : mz_Ct G X y cc nL ret rm vs n f post := by
  intro ad sz hwf hok
  refine Met.ofW (cc := cc) (maxL := nL) (ret := ret) hy rfl ?_
  intro p e s m args below meth c s₁ B hml hv
  obtain ⟨rfl, rfl, hP, hK, hD0, hns, hxt⟩ := hv
  rw [lg_entry_eq]
  have hts := atoms_spec (ws := mz_ws y cc nL ret) B.pre
  have hown : s.vm.findClass y.cls = some m.cls := findClass_of_methodNamed B.named
  rw [hcn] at hown
  refine mz_wor (Q := mz_Z G rm below (va_A (mz_w G.2.2 ad n f) s.heap.size) ad n post (fun _ _ _ => False) (vs.map (mz_v ad)).toArray s) (fun t q => ?_) ?_
  · rcases q with q | ⟨_, _, _, _, _, _, _, _, _, z, _⟩
    · exact q
    · exact z.elim
  exact h (Nat.zero_le _) (Nat.zero_le _) (mz_okL0 hok) (fun _ hh => by cases hh) p e s m _ below meth c (va_A (mz_w G.2.2 ad n f) s.heap.size) s.heap [] _ ad ad n
    ⟨B.exec, B.bytes, hml, B.returns, hown, fun hi => (name_of_methodNamed B.named B.method).1.trans (hin hi), B.notSynchronized, fun w hw => hts w (List.mem_cons_of_mem _ hw), hns, hK, fun q hq => Or.inr hq⟩
    ⟨hP, hD0.self, va_S.rf, hwf, Nat.le_refl _, fun _ _ => rfl, hxt⟩ (mz_lv0 hlen)
theorem mz_mono {G : mz_G} {X : mz_E} {cc : ByteArray} {nL : Nat} {ret : Option FieldType} {rm : Room} {post post' : Option Value → Nat → mz_H → Prop} {thr : String → Nat → mz_H → Prop} {cn : Nat} {ini : Bool} {pc : Nat} {l : mz_L} {st : List Value} {k1 k2 n : Nat} {f : mz_H} (hp : ∀ v n' f', post v n' f' → post' v n' f') (h : mz_X G X cn ini cc nL ret rm post thr pc l st k1 k2 n f) : mz_X G X cn ini cc nL ret rm post' thr pc l st k1 k2 n f := by
  intro hk1 hk2 hol hos p e s m args below meth c A H locs ls ad ad0 n0 ok rep hl
  refine mz_wor (fun t q => ?_) (h hk1 hk2 hol hos p e s m args below meth c A H locs ls ad ad0 n0 ok rep hl)
  rcases q with q | q
  · obtain ⟨o, b1, b2, ⟨v, ad', n', f', q1, q2, q3⟩, b3⟩ := q
    exact Or.inl ⟨o, b1, b2, ⟨v, ad', n', f', q1, hp _ _ _ q2, q3⟩, b3⟩
  · exact Or.inr q
theorem mz_goodIn {ws : List Cond} (h : ∀ w ∈ ws, w ∈ nm_Ts) : GoodIn nm_Ts ws := fun w hw => ⟨h w hw, good_of_word (nm_good w (h w hw))⟩
theorem mz_ws_in {y : MethodName} {cc : ByteArray} {nL : Nat} {ret : Option FieldType} (h : Cond.code y cc nL ret ∈ nm_Ts) : ∀ w ∈ mz_ws y cc nL ret, w ∈ nm_Ts := fun w hw => by
  rcases List.mem_cons.mp hw with rfl | q
  · exact h
  · exact q
theorem mz_xt_moved {ad : Nat → Nat} {A A' : Nat → Prop} {X X' : mz_E} {s U : State} {H : Heap} {locs : List Loc} (hvm : s.vm.Alike U.vm) (hS : va_S A s.heap H locs) (hAA : ∀ q, A' q → A q) (hX : ∀ a q, X' a = some q → X a = some q) (h : mz_xt ad A X s s.heap) : mz_xt ad A' X' U H := by
  refine ⟨fun a N g hq => ⟨(h.1 a N g (hX _ _ hq)).1, va_T.moved hvm (((h.1 a N g (hX _ _ hq)).2.kept hS.2.1).narrow hAA)⟩, fun q hq hne => ?_⟩
  refine va_Z.moved hvm (((h.2 q hq ?_).kept hS.2.1).narrow hAA)
  cases hE : X' q.1 with
  | none => exact absurd hE hne
  | some w => rw [hX _ _ hE]; exact fun z => by cases z
theorem mz_xt_ad {ad ad' : Nat → Nat} {A : Nat → Prop} {X : mz_E} {s : State} {H : Heap} (he : ∀ k, mz_e0 ≤ k → ad' k = ad k) (h : mz_xt ad A X s H) : mz_xt ad' A X s H := by
  refine ⟨fun a N g hq => ⟨(h.1 a N g hq).1, by rw [he a (h.1 a N g hq).1]; exact (h.1 a N g hq).2⟩, fun q hq hne => ?_⟩
  have ha : mz_e0 ≤ q.1 := by
    cases hE : X q.1 with
    | none => exact absurd hE hne
    | some w => exact (h.1 q.1 w.1 w.2 hE).1
  rw [he _ ha]
  exact h.2 q hq hne
theorem mz_pc_blind {G : mz_G} {X : mz_E} {ad : Nat → Nat} {sz : Nat} {vs : List Value} {n : Nat} {f : mz_H} : FrameBlind (mz_pc G X ad sz vs n f) := by
  intro a U g mk q
  obtain ⟨q0, q1, qP, qK, qD, qN, qX⟩ := q
  have ha : U.vm.Alike (U.calling g mk a).vm := Vm.Alike.refl U.vm
  exact ⟨q0, q1, qP, va_K.moved ha qK, qD, fun w hw => va_Nw.same (nm_Ns_on w hw) (rfl : U.vm = (U.calling g mk a).vm) (qN w hw), fun a' N g' h' => ⟨(qX.1 a' N g' h').1, va_T.moved ha (qX.1 a' N g' h').2⟩, fun q hq hne => va_Z.moved ha (qX.2 q hq hne)⟩
theorem mz_pc_at {G : mz_G} {X X' : mz_E} {A : Nat → Prop} {s : State} {ad ad0 : Nat → Nat} {n0 n : Nat} {f : mz_H} {H : Heap} {locs : List Loc} {vs : List Value} (hns : ∀ w ∈ nm_Ns, va_Nw w s) (hK : va_K G.2.1 nm_Cl (mz_ty G.2.2) s) (hA : ∀ q, s.heap.size ≤ q → A q) (hX : ∀ a q, X' a = some q → X a = some q) (rep : mz_rep G X A s ad ad0 n0 n f H locs) :
    ∀ U : State, U.heap = H → s.WarmedH U.vm → mz_pc G X' ad H.size vs n f (vs.map (mz_v ad)).toArray U := by
  intro U hU hW
  obtain ⟨rP, rD, rS, rW, rN, rA, rX⟩ := rep
  refine ⟨rfl, by rw [hU], by rw [hU]; exact rP, va_K.moved hW.alike hK, rD.weaken (fun _ _ _ _ => trivial), fun w hw => nm_Ns_warm w hw hW (hns w hw), ?_⟩
  rw [hU]
  refine mz_xt_moved hW.alike rS (fun q hq => ?_) hX rX
  rcases hq with ⟨k, e, hk⟩ | hq
  · exact rD.2 k _ hk
  · exact hA q (Nat.le_trans rS.1 hq)
section MZC
variable {G : mz_G} {X X' : mz_E} {cn : Nat} {ini : Bool} {cc : ByteArray} {nL : Nat} {ret : Option FieldType} {rm : Room} {post : Option Value → Nat → mz_H → Prop} {thr : String → Nat → mz_H → Prop} {pc : Nat} {l : mz_L} {k1 k2 n : Nat} {f : mz_H}
variable {y : MethodName} {cc' : ByteArray} {nL' : Nat} {ret' : Option FieldType} {rm' : Room} {post' : Option Value → Nat → mz_H → Prop} {rest As : List Value} {idx : Nat}
/-- behind a call -/
theorem mz_cont {p : Program} {e : Env} {s : State} {m : MethodId} {args : Array Value} {below : List Frame} {meth : Method} {c : Code} {A : Nat → Prop} {H : Heap} {locs : List Loc} {ls : Array Slot} {ad ad0 : Nat → Nat} {n0 : Nat} {st0 : List Value} {a : Array Value}
    (hr : va_Run p G.1 e rm s m args below meth c H locs k1 k2 rm'.cells rm'.slots (F0 m pc ls st0) (rest.map (mz_v ad)) (mz_q G (va_A (mz_w G.2.2 ad n f) H.size) ad n post' a) (va_A (mz_w G.2.2 ad n f) H.size))
    (hf : k1 + rm'.cells ≤ rm.cells ∧ k2 + rm'.slots ≤ rm.slots) (hol : mz_okL n l) (hos : mz_okS n rest) (ok : mz_ok G cn ini cc nL ret A p s m args meth c) (rep : mz_rep G X A s ad ad0 n0 n f H locs) (hl : mz_lv ad ls nL l)
    (kk : ∀ v n' f', post' v n' f' → mz_X G X cn ini cc nL ret rm post thr (pc + 3) l (v.toList ++ rest) (k1 + rm'.cells) (k2 + rm'.slots) n' f') :
    W p G.1 e rm s m args below meth c H locs k1 k2 (mz_Z G rm below A ad0 n0 post thr args s) (F0 m pc ls st0) := by
  obtain ⟨rP, rD, rS, rW, rN, rA, rX⟩ := id rep
  have hA := ok.2.2.2.2.2.2.2.2.2.2
  have hFc : ∀ q, va_A (mz_w G.2.2 ad n f) H.size q → A q := by
    intro q hq
    rcases hq with ⟨k, e, hk⟩ | hq
    · exact rD.2 k _ hk
    · exact hA q (Nat.le_trans rS.1 hq)
  intro T hT S
  obtain ⟨v', st₀, t, T', L, h0, X', hL, e1, e2, ⟨v, ad', n', f', hv, hp, hP1, hD1, ⟨hz, hk⟩, hW1, hn1, ha1, hov⟩, st⟩ := hr T hT S
  cases hv
  rw [h0] at hz hk
  have hn2 : n0 ≤ n' := Nat.le_trans rN hn1
  have ha2 : ∀ k, k < n0 ∨ mz_e0 ≤ k → ad' k = ad0 k := fun k hk' => (ha1 k (hk'.imp (fun z => Nat.lt_of_lt_of_le z rN) id)).trans (rA k hk')
  have hokL' : mz_okL n' l := fun w hw => mz_okV_mono hn1 (hol w hw)
  have hokS' : mz_okS n' (v.toList ++ rest) := by
    intro w hw
    rcases List.mem_append.mp hw with q | q
    · cases v with
      | none => cases q
      | some x =>
        rcases List.mem_cons.mp q with q | q
        · rw [q]; exact hov x rfl
        · cases q
    · exact mz_okV_mono hn1 (hos w q)
  obtain ⟨t2, a1, b1⟩ := kk v n' f' hp hf.1 hf.2 hokL' hokS' p e s m args below meth c A T'.heap (locs ++ L) ls ad' ad0 n0 ok
    ⟨by rw [e1]; exact hP1, hD1.weaken (fun _ q _ hq => hFc _ hq), ⟨Nat.le_trans rS.1 (by rw [e1]; exact hz), fun q h1 h2 => by rw [e1, hk q (Nat.lt_of_lt_of_le h1 rS.1) (fun z => h2 (hFc q z))]; exact rS.2.1 q h1 h2, fun q hq => by
      rcases List.mem_append.mp hq with h | h
      · exact rS.2.2 q h
      · exact hFc _ (hL q h)⟩, hW1, hn2, ha2, mz_xt_ad (fun k hk' => ha1 k (Or.inr hk')) rX⟩ (mz_lv_eq ha1 hol hl) T' rfl X'
  refine ⟨t2, st t2 ?_, b1⟩
  have eS : (v.toList ++ rest).map (mz_v ad') = (v.map (mz_v ad')).toList ++ rest.map (mz_v ad) := by
    rw [List.map_append, mz_s_eq ha1 hos]
    cases v <;> rfl
  rw [← eS]
  exact a1
abbrev mz_rmOk (rm rm' : Room) (nL' k1 k2 : Nat) : Prop := (rm'.frames + 1 ≤ rm.frames ∧ 8 + (nL' + 11) + rm'.locals ≤ rm.locals) ∧ k1 + rm'.cells ≤ rm.cells ∧ k2 + rm'.slots ≤ rm.slots
abbrev mz_cl1 (y : MethodName) (na : Nat) : Prop := y.cls ≠ "java/lang/invoke/MethodHandle" ∧ y.cls ≠ "java/lang/invoke/VarHandle" ∧ (parseMethodDescriptor y.desc).map (fun d => d.parameters.length) = some na
abbrev mz_cv (cn idx : Nat) (y : MethodName) (cc' : ByteArray) (nL' : Nat) (ret' : Option FieldType) (na : Nat) : Prop :=
  (Cond.methodLink (nm_Own cn) idx y ∈ nm_Ts ∨ Cond.methodLinkNest (nm_Own cn) idx y nm_host ∈ nm_Ns) ∧ Cond.instanceMethod y ∈ nm_Ts ∧ Cond.selects y.cls y y ∈ nm_Ts ∧ Cond.initialized y.cls ∈ nm_Ts ∧ Cond.code y cc' nL' ret' ∈ nm_Ts ∧ mz_cl1 y na
abbrev mz_cs (cn idx : Nat) (y : MethodName) (cc' : ByteArray) (nL' : Nat) (ret' : Option FieldType) (na : Nat) : Prop :=
  (Cond.methodLink (nm_Own cn) idx y ∈ nm_Ts ∨ Cond.methodLinkNest (nm_Own cn) idx y nm_host ∈ nm_Ns) ∧ Cond.static y ∈ nm_Ts ∧ Cond.initialized y.cls ∈ nm_Ts ∧ Cond.code y cc' nL' ret' ∈ nm_Ts ∧ mz_cl1 y na
abbrev mz_ci (cn idx : Nat) (y : MethodName) (cc' : ByteArray) (nL' : Nat) (na : Nat) : Prop :=
  (Cond.methodLink (nm_Own cn) idx y ∈ nm_Ts ∨ Cond.methodLinkNest (nm_Own cn) idx y nm_host ∈ nm_Ns) ∧ Cond.instanceMethod y ∈ nm_Ts ∧ y.name = "<init>" ∧ Cond.initialized y.cls ∈ nm_Ts ∧ Cond.code y cc' nL' none ∈ nm_Ts ∧ mz_cl1 y na
theorem mz_callV {b ci na : Nat} {fs : List Value} {q : vw_C} (hd : decode cc pc = .ok (.invokevirtual idx, 3)) (hw : mz_cv cn idx y cc' nL' ret' na) (hna : As.length = na) (hX : ∀ a q, X' a = some q → X a = some q) (hc : mz_Ct G X' y cc' nL' ret' rm' (.ref b :: As) n f post') (hb2 : f b = .inr (ci, fs)) (hq : nm_Cl[ci]? = some q) (hqy : q.1 = y.cls) (hrm : mz_rmOk rm rm' nL' k1 k2) (hW : (rest.map fun v => v.category).sum ≤ 8)
    {st : List Value} (hst : st = As.reverse ++ .ref b :: rest) (kk : ∀ v n' f', post' v n' f' → mz_X G X cn ini cc nL ret rm post thr (pc + 3) l (v.toList ++ rest) (k1 + rm'.cells) (k2 + rm'.slots) n' f') : mz_X G X cn ini cc nL ret rm post thr pc l st k1 k2 n f := by
  subst hst
  intro hk1 hk2 hol hos p e s m args below meth c A H locs ls ad ad0 n0 ok rep hl
  obtain ⟨hx, hb, hml, hr, hown, hin, hlocks, hts, hns, hK, hA⟩ := id ok
  obtain ⟨rP, rD, rS, rW, rN, rA, rX⟩ := id rep
  obtain ⟨hlk, w1, w2, w3, w4, hd1, hd2, hd3⟩ := hw
  have hosA : mz_okS n (.ref b :: As) := mz_okS_c (hos _ (List.mem_append_right _ List.mem_cons_self)) (fun v hv => hos v (List.mem_append_left _ (List.mem_reverse.mpr hv)))
  have hosR : mz_okS n rest := fun v hv => hos v (List.mem_append_right _ (List.mem_cons_of_mem _ hv))
  have hnd : b < n := by
    rcases hosA _ List.mem_cons_self with z | z
    · exact z
    · exfalso
      rw [rW.2.2 b (Nat.le_trans rW.1 z)] at hb2
      have h2 : ci = 1000 := by injection hb2 with h2; injection h2 with h2; exact h2.symm
      rw [h2] at hq
      exact absurd hq nm_Cl_1000
  have hg := mz_w_get (tA := G.2.2) (ad := ad) (f := f) hnd
  rw [hb2] at hg
  have hM := hc ad H.size rW hosA
  have hrec := va_recv hK rP hq hg
  rw [hqy] at hrec
  have hst : ((As.reverse ++ Value.ref b :: rest).map (mz_v ad)) = (As.map (mz_v ad)).reverse ++ .ref (ad b) :: rest.map (mz_v ad) := by
    rw [List.map_append, List.map_reverse]; rfl
  rw [hst]
  have hW2 : ((rest.map (mz_v ad)).map fun v => v.category).sum ≤ 8 := by
    rw [List.map_map, show ((fun v : Value => v.category) ∘ mz_v ad) = (fun v => v.category) from funext (mz_v_cat ad)]; exact hW
  have hpv : PreV s H y.cls (ad b) (mz_pc G X' ad H.size (.ref b :: As) n f) (As.map (mz_v ad)) := ⟨mz_pc_blind, hrec, mz_pc_at (vs := .ref b :: As) hns hK hA hX rep⟩
  rcases hlk with hlk | hlk
  · refine mz_cont (rm' := rm') (post' := post') (va_runV (As := As.map (mz_v ad)) (rest := rest.map (mz_v ad)) (b := ad b) (C := y.cls) ⟨hx, hb, hml, hown, hts⟩ hM (cwV na hts (mz_goodIn (fun w hw => ?_)) rfl rfl rfl ⟨rfl, hd1, hd2, hd3⟩ hrm.1) hpv rfl (by rw [List.length_map]; exact hna) hl.1 rfl (lv_room hW2) hd hrm.2) hrm.2 hol hosR ok rep hl kk
    rcases List.mem_append.mp hw with z | z
    · simp only [List.mem_cons, List.not_mem_nil, or_false] at z
      rcases z with rfl | rfl | rfl | rfl
      · exact hlk
      · exact w1
      · exact w2
      · exact w3
    · exact mz_ws_in w4 w z
  · exact mz_cont (rm' := rm') (post' := post') (va_runVN (As := As.map (mz_v ad)) (rest := rest.map (mz_v ad)) (b := ad b) (C := y.cls) ⟨hx, hb, hml, hown, hts⟩ hM ⟨va_cnB na hts (mz_goodIn (mz_ws_in w4)) rfl rfl rfl (hns _ hlk) (hts _ w3) ⟨hd1, hd2, hd3⟩ hrm.1, hts _ w1, hts _ w2⟩ hpv rfl (by rw [List.length_map]; exact hna) hl.1 rfl (lv_room hW2) hd hrm.2) hrm.2 hol hosR ok rep hl kk
theorem mz_callS {na : Nat} (hd : decode cc pc = .ok (.invokestatic idx, 3)) (hw : mz_cs cn idx y cc' nL' ret' na) (hna : As.length = na) (hX : ∀ a q, X' a = some q → X a = some q) (hc : mz_Ct G X' y cc' nL' ret' rm' As n f post') (hrm : mz_rmOk rm rm' nL' k1 k2) (hW : (rest.map fun v => v.category).sum ≤ 8)
    {st : List Value} (hst : st = As.reverse ++ rest) (kk : ∀ v n' f', post' v n' f' → mz_X G X cn ini cc nL ret rm post thr (pc + 3) l (v.toList ++ rest) (k1 + rm'.cells) (k2 + rm'.slots) n' f') : mz_X G X cn ini cc nL ret rm post thr pc l st k1 k2 n f := by
  subst hst
  intro hk1 hk2 hol hos p e s m args below meth c A H locs ls ad ad0 n0 ok rep hl
  obtain ⟨hx, hb, hml, hr, hown, hin, hlocks, hts, hns, hK, hA⟩ := id ok
  obtain ⟨rP, rD, rS, rW, rN, rA, rX⟩ := id rep
  obtain ⟨hlk, w1, w3, w4, hd1, hd2, hd3⟩ := hw
  have hosA : mz_okS n As := fun v hv => hos v (List.mem_append_left _ (List.mem_reverse.mpr hv))
  have hosR : mz_okS n rest := fun v hv => hos v (List.mem_append_right _ hv)
  have hM := hc ad H.size rW hosA
  have hst : ((As.reverse ++ rest).map (mz_v ad)) = (As.map (mz_v ad)).reverse ++ rest.map (mz_v ad) := by
    rw [List.map_append, List.map_reverse]
  rw [hst]
  have hW2 : ((rest.map (mz_v ad)).map fun v => v.category).sum ≤ 8 := by
    rw [List.map_map, show ((fun v : Value => v.category) ∘ mz_v ad) = (fun v => v.category) from funext (mz_v_cat ad)]; exact hW
  have hps : PreS s H (mz_pc G X' ad H.size As n f) (As.map (mz_v ad)) := ⟨mz_pc_blind, mz_pc_at (vs := As) hns hK hA hX rep⟩
  rcases hlk with hlk | hlk
  · refine mz_cont (rm' := rm') (post' := post') (va_runS (As := As.map (mz_v ad)) (rest := rest.map (mz_v ad)) ⟨hx, hb, hml, hown, hts⟩ hM (va_cwS na hts (mz_goodIn (fun w hw => ?_)) rfl rfl rfl ⟨hd1, hd2, hd3⟩ hrm.1) hps rfl (by rw [List.length_map]; exact hna) hl.1 rfl (lv_room hW2) hd hrm.2) hrm.2 hol hosR ok rep hl kk
    rcases List.mem_append.mp hw with z | z
    · simp only [List.mem_cons, List.not_mem_nil, or_false] at z
      rcases z with rfl | rfl | rfl
      · exact hlk
      · exact w1
      · exact w3
    · exact mz_ws_in w4 w z
  · exact mz_cont (rm' := rm') (post' := post') (va_runSN (As := As.map (mz_v ad)) (rest := rest.map (mz_v ad)) ⟨hx, hb, hml, hown, hts⟩ hM ⟨va_cnB na hts (mz_goodIn (mz_ws_in w4)) rfl rfl rfl (hns _ hlk) (hts _ w3) ⟨hd1, hd2, hd3⟩ hrm.1, hts _ w1, trivial⟩ hps rfl (by rw [List.length_map]; exact hna) hl.1 rfl (lv_room hW2) hd hrm.2) hrm.2 hol hosR ok rep hl kk
theorem mz_callI {b na : Nat} (hd : decode cc pc = .ok (.invokespecial idx, 3)) (hw : mz_ci cn idx y cc' nL' na) (hna : As.length = na) (hX : ∀ a q, X' a = some q → X a = some q) (hc : mz_Ct G X' y cc' nL' none rm' (.ref b :: As) n f post') (hrm : mz_rmOk rm rm' nL' k1 k2) (hW : (rest.map fun v => v.category).sum ≤ 8)
    {st : List Value} (hst : st = As.reverse ++ .ref b :: rest) (kk : ∀ v n' f', post' v n' f' → mz_X G X cn ini cc nL ret rm post thr (pc + 3) l (v.toList ++ rest) (k1 + rm'.cells) (k2 + rm'.slots) n' f') : mz_X G X cn ini cc nL ret rm post thr pc l st k1 k2 n f := by
  subst hst
  intro hk1 hk2 hol hos p e s m args below meth c A H locs ls ad ad0 n0 ok rep hl
  obtain ⟨hx, hb, hml, hr, hown, hin, hlocks, hts, hns, hK, hA⟩ := id ok
  obtain ⟨rP, rD, rS, rW, rN, rA, rX⟩ := id rep
  obtain ⟨hlk, w1, w2, w3, w4, hd1, hd2, hd3⟩ := hw
  have hosA : mz_okS n (.ref b :: As) := mz_okS_c (hos _ (List.mem_append_right _ List.mem_cons_self)) (fun v hv => hos v (List.mem_append_left _ (List.mem_reverse.mpr hv)))
  have hosR : mz_okS n rest := fun v hv => hos v (List.mem_append_right _ (List.mem_cons_of_mem _ hv))
  have hM := hc ad H.size rW hosA
  have hst : ((As.reverse ++ Value.ref b :: rest).map (mz_v ad)) = (As.map (mz_v ad)).reverse ++ .ref (ad b) :: rest.map (mz_v ad) := by
    rw [List.map_append, List.map_reverse]; rfl
  rw [hst]
  have hW2 : ((rest.map (mz_v ad)).map fun v => v.category).sum ≤ 8 := by
    rw [List.map_map, show ((fun v : Value => v.category) ∘ mz_v ad) = (fun v => v.category) from funext (mz_v_cat ad)]; exact hW
  have hps : PreS s H (mz_pc G X' ad H.size (.ref b :: As) n f) (.ref (ad b) :: As.map (mz_v ad)) := ⟨mz_pc_blind, mz_pc_at (vs := .ref b :: As) hns hK hA hX rep⟩
  rcases hlk with hlk | hlk
  · exact mz_cont (rm' := rm') (post' := post') (va_runI (As := As.map (mz_v ad)) (rest := rest.map (mz_v ad)) (b := ad b) ⟨hx, hb, hml, hown, hts⟩ hM (cwI na hts (mz_goodIn (mz_ws_in w4)) rfl rfl rfl (hts _ w3) (hts _ hlk) (hts _ w1) w2 ⟨hd1, hd2, hd3⟩ hrm.1) hps rfl (by rw [List.length_map]; exact hna) hl.1 rfl (lv_room hW2) hd hrm.2) hrm.2 hol hosR ok rep hl kk
  · exact mz_cont (rm' := rm') (post' := post') (va_runIN (As := As.map (mz_v ad)) (rest := rest.map (mz_v ad)) (b := ad b) ⟨hx, hb, hml, hown, hts⟩ hM ⟨va_cnB na hts (mz_goodIn (mz_ws_in w4)) rfl rfl rfl (hns _ hlk) (hts _ w3) ⟨hd1, hd2, hd3⟩ hrm.1, w2, hts _ w1⟩ hps rfl (by rw [List.length_map]; exact hna) hl.1 rfl (lv_room hW2) hd hrm.2) hrm.2 hol hosR ok rep hl kk
end MZC
end
section
/-! new cells; Object.<init>; Math.max -/
theorem mz_dv (ad : Nat → Nat) (ty : FieldType) : mz_v ad (defaultValue ty) = defaultValue ty := by cases ty <;> rfl
theorem mz_dok (n : Nat) (ty : FieldType) : mz_okV n (defaultValue ty) := by cases ty <;> trivial
theorem mz_okC_mono {n m : Nat} (h : n ≤ m) {c : mz_C} (hc : mz_okC n c) : mz_okC m c := by
  rcases c with ⟨t, N, g | g | g | g | g⟩ | ⟨ci, fs⟩
  · trivial
  · trivial
  · trivial
  · trivial
  · exact fun j a hj => Nat.lt_of_lt_of_le (hc j a hj) h
  · exact fun v hv => mz_okV_mono h (hc v hv)
theorem mz_up_eq {ad : Nat → Nat} {n q : Nat} (hn : n < mz_e0) : ∀ k, k < n ∨ mz_e0 ≤ k → va_up ad n q k = ad k := fun k hk => by
  have : k ≠ n := by omega
  simp [va_up, this]
theorem mz_w_push {tA : Nat → ClassId} {ad : Nat → Nat} {n : Nat} {f : mz_H} (hwf : mz_wf n f) (hn : n < mz_e0) (q : Nat) {c : mz_C} : mz_w tA (va_up ad n q) (n + 1) (mz_u f n c) = mz_w tA ad n f ++ [(q, mz_e tA (va_up ad n q) c)] := by
  unfold mz_w
  rw [List.range_succ, List.map_append]
  congr 1
  · apply List.map_congr_left
    intro k hk
    have hk := List.mem_range.mp hk
    rw [mz_u_n (by omega), mz_up_eq hn k (Or.inl hk), mz_e_eq (mz_up_eq hn) (hwf.2.1 k)]
  · simp [mz_u_s, va_up]
theorem mz_wf_push {n : Nat} {f : mz_H} (h : mz_wf n f) (hn : n < mz_e0) {c : mz_C} (hc : mz_okC (n + 1) c) : mz_wf (n + 1) (mz_u f n c) := by
  refine ⟨hn, fun k => ?_, fun k hk => ?_⟩
  · by_cases e : k = n
    · rw [e, mz_u_s]; exact hc
    · rw [mz_u_n e]; exact mz_okC_mono (Nat.le_succ n) (h.2.1 k)
  · rw [mz_u_n (by omega)]; exact h.2.2 k (by omega)
section MZN
variable {G : mz_G} {X : mz_E} {cn : Nat} {ini : Bool} {cc : ByteArray} {nL : Nat} {ret : Option FieldType} {rm : Room} {post : Option Value → Nat → mz_H → Prop} {thr : String → Nat → mz_H → Prop} {pc : Nat} {l : mz_L} {r : List Value} {k1 k2 n : Nat} {f : mz_H} {idx : Nat}
/-- behind the making of a cell -/
theorem mz_made {p : Program} {e : Env} {s : State} {m : MethodId} {args : Array Value} {below : List Frame} {meth : Method} {c : Code} {A : Nat → Prop} {H H1 : Heap} {locs : List Loc} {ls : Array Slot} {ad ad0 : Nat → Nat} {n0 q N ln : Nat} {nc : mz_C}
    (hn : n < mz_e0) (hnc : mz_okC (n + 1) nc) (hol : mz_okL n l) (hos : mz_okS n r) (ok : mz_ok G cn ini cc nL ret A p s m args meth c) (rep : mz_rep G X A s ad ad0 n0 n f H locs) (hl : mz_lv ad ls nL l) (hk1 : k1 + 1 ≤ rm.cells) (hk2 : k2 + N ≤ rm.slots)
    (hP1 : va_P G.2.1 nm_Cl (mz_w G.2.2 ad n f ++ [(q, mz_e G.2.2 (va_up ad n q) nc)]) H1) (hD1 : va_D A (mz_w G.2.2 ad n f ++ [(q, mz_e G.2.2 (va_up ad n q) nc)])) (hS1 : va_S A s.heap H1 locs)
    (h : mz_X G X cn ini cc nL ret rm post thr (pc + ln) l (.ref n :: r) (k1 + 1) (k2 + N) (n + 1) (mz_u f n nc)) :
    W p G.1 e rm s m args below meth c H1 locs (k1 + 1) (k2 + N) (mz_Z G rm below A ad0 n0 post thr args s) (F0 m (pc + ln) ls (.ref q :: r.map (mz_v ad))) := by
  obtain ⟨rP, rD, rS, rW, rN, rA, rX⟩ := id rep
  have hup := mz_up_eq (ad := ad) (q := q) hn
  have eW := mz_w_push (tA := G.2.2) (ad := ad) rW hn q (c := nc)
  have hS : (Value.ref n :: r).map (mz_v (va_up ad n q)) = .ref q :: r.map (mz_v ad) := by
    rw [List.map_cons, mz_s_eq hup hos]
    show Value.ref (va_up ad n q n) :: _ = _
    simp [va_up]
  rw [← hS]
  refine h hk1 hk2 (fun v hv => mz_okV_mono (Nat.le_succ n) (hol v hv)) (mz_okS_c (Or.inl (Nat.lt_succ_self n)) (fun v hv => mz_okV_mono (Nat.le_succ n) (hos v hv))) p e s m args below meth c A H1 locs ls (va_up ad n q) ad0 n0 ok ⟨by rw [eW]; exact hP1, by rw [eW]; exact hD1, hS1, mz_wf_push rW hn hnc, by omega, fun k hk => ?_, mz_xt_ad (fun k hk => hup k (Or.inr hk)) rX⟩ (mz_lv_eq hup hol hl)
  rw [hup k (hk.imp (fun z => Nat.lt_of_lt_of_le z rN) id)]
  exact rA k hk
theorem mz_new {ci N : Nat} {C : String} {T : u_T} {fs : List Value} (hd : decode cc pc = .ok (.new idx, 3)) (hc : nm_Cl[ci]? = some (C, T, N)) (w : Cond.classLink (nm_Own cn) idx C ∈ nm_Ts ∧ Cond.instantiable C N ∈ nm_Ts ∧ Cond.initialized C ∈ nm_Ts) (hfs : (List.range N).map (fun j => defaultValue (nm_FTy ci j)) = fs) (hm1 : k1 + 1 ≤ rm.cells) (hm2 : k2 + N ≤ rm.slots) (hn : n < mz_e0)
    (h : mz_X G X cn ini cc nL ret rm post thr (pc + 3) l (.ref n :: r) (k1 + 1) (k2 + N) (n + 1) (mz_u f n (.inr (ci, fs)))) : mz_X G X cn ini cc nL ret rm post thr pc l r k1 k2 n f := by
  intro hk1 hk2 hol hos p e s m args below meth c A H locs ls ad ad0 n0 ok rep hl
  obtain ⟨hx, hb, hml, hr, hown, hin, hlocks, hts, hns, hK, hA⟩ := id ok
  obtain ⟨rP, rD, rS, rW, rN, rA, rX⟩ := id rep
  have hfs2 : ∀ ad : Nat → Nat, fs.map (mz_v ad) = fs := fun ad => by
    rw [← hfs, List.map_map]
    exact List.map_congr_left fun j _ => mz_dv ad _
  refine va_new hx hb hts (nm_Cl_ws hc) (nm_FTy ci) (nm_Cl_ty hc) hown (hts _ w.1) (hts _ w.2.1) (hts _ w.2.2) hK rP rD rS hA hc (fs := fs) (fun j hj => by
    rw [← hfs]
    simp [vp_V, List.getD_eq_getElem?_getD, List.getElem?_range hj]) hm1 hm2 hd (fun q H1 hP1 hD1 hS1 => ?_)
  have eE : mz_e G.2.2 (va_up ad n q) (.inr (ci, fs) : mz_C) = .inr (ci, fs) := by
    show Sum.inr (ci, fs.map (mz_v (va_up ad n q))) = _
    rw [hfs2]
  exact mz_made (ln := 3) (nc := .inr (ci, fs)) hn (fun v hv => by
    rw [← hfs] at hv
    obtain ⟨j, -, rfl⟩ := List.mem_map.mp hv
    exact mz_dok _ _) hol hos ok rep hl hm1 hm2 (by rw [eE]; exact hP1) (by rw [eE]; exact hD1) hS1 h
theorem mz_newa {at' : Jvm.ClassFile.ArrayType} {t N : Nat} {ty : FieldType} {a0 : vp_A} {x : Int32} (hd : decode cc pc = .ok (.newarray at', 2)) (hty : Jvm.Op.newarray.typeOf at' = ty) (ht : nm_Ty[t]? = some ty) (hprim : ∀ U cA, va_RA U cA ty = (U.vm.findClass ("[" ++ ty.toString) = some cA)) (w : Cond.arrayClass ty ∈ nm_Ts) (ha : ∀ cA : ClassId, vp_cell cA a0 = arrV cA N (fun _ => defaultValue ty)) (ha2 : ∀ ad, mz_a ad a0 = a0) (hok : mz_okC (n + 1) (.inl (t, a0))) (hx0 : ¬ x < 0) (hxN : x.toNatClampNeg = N) (hby : N * componentBytes ty ≤ 536870912) (hm1 : k1 + 1 ≤ rm.cells) (hm2 : k2 + N ≤ rm.slots) (hn : n < mz_e0)
    (h : mz_X G X cn ini cc nL ret rm post thr (pc + 2) l (.ref n :: r) (k1 + 1) (k2 + N) (n + 1) (mz_u f n (.inl (t, a0)))) : mz_X G X cn ini cc nL ret rm post thr pc l (.int x :: r) k1 k2 n f := by
  intro hk1 hk2 hol hos p e s m args below meth c A H locs ls ad ad0 n0 ok rep hl
  obtain ⟨hx, hb, hml, hr, hown, hin, hlocks, hts, hns, hK, hA⟩ := id ok
  obtain ⟨rP, rD, rS, rW, rN, rA, rX⟩ := id rep
  refine va_newa hx hb (by rw [hty]; exact hts _ w) hty hK rP rD rS hA ha hx0 hxN hby hm1 hm2 hd (fun q cA H1 hK1 hP1 hD1 hS1 => ?_)
  have e1 := (hK.2 t _ (mz_ty_get ht)).2
  have e2 := (hK1.2 (mz_ty G.2.2).length (cA, ty) (by rw [List.getElem?_append_right (Nat.le_refl _), Nat.sub_self]; rfl)).2
  rw [hprim] at e1 e2
  have e3 : G.2.2 t = cA := Option.some.inj (e1.symm.trans e2)
  have eE : mz_e G.2.2 (va_up ad n q) (.inl (t, a0) : mz_C) = .inl (cA, a0) := by
    show Sum.inl (G.2.2 t, mz_a (va_up ad n q) a0) = _
    rw [ha2, e3]
  exact mz_made (ln := 2) hn hok hol (mz_okS_tl hos) ok rep hl hm1 hm2 (by rw [eE]; exact hP1) (by rw [eE]; exact hD1) hS1 h
theorem mz_newq {C : String} {t N : Nat} {x : Int32} (hd : decode cc pc = .ok (.anewarray idx, 3)) (ht : nm_Ty[t]? = some (.object C)) (w : Cond.classLink (nm_Own cn) idx C ∈ nm_Ts ∧ Cond.arrayOver (.object C) ∈ nm_Ts) (hx0 : ¬ x < 0) (hxN : x.toNatClampNeg = N) (hby : N * 4 ≤ 536870912) (hm1 : k1 + 1 ≤ rm.cells) (hm2 : k2 + N ≤ rm.slots) (hn : n < mz_e0)
    (h : mz_X G X cn ini cc nL ret rm post thr (pc + 3) l (.ref n :: r) (k1 + 1) (k2 + N) (n + 1) (mz_u f n (.inl (t, N, .inr (.inr (.inr (.inr (fun _ => none)))))))) : mz_X G X cn ini cc nL ret rm post thr pc l (.int x :: r) k1 k2 n f := by
  intro hk1 hk2 hol hos p e s m args below meth c A H locs ls ad ad0 n0 ok rep hl
  obtain ⟨hx, hb, hml, hr, hown, hin, hlocks, hts, hns, hK, hA⟩ := id ok
  obtain ⟨rP, rD, rS, rW, rN, rA, rX⟩ := id rep
  refine va_newq hx hb hown (hts _ w.1) (hts (Cond.arrayOver (.object C)) w.2) hK rP rD rS hA hx0 hxN hby hm1 hm2 hd (fun q cA H1 hK1 hP1 hD1 hS1 => ?_)
  obtain ⟨_, _, _, _, _, e1⟩ := (hK.2 t _ (mz_ty_get ht)).2
  obtain ⟨_, _, _, _, _, e2⟩ := (hK1.2 (mz_ty G.2.2).length (cA, .object C) (by rw [List.getElem?_append_right (Nat.le_refl _), Nat.sub_self]; rfl)).2
  have e3 : G.2.2 t = cA := Option.some.inj (e1.symm.trans e2)
  have eE : mz_e G.2.2 (va_up ad n q) (.inl (t, N, .inr (.inr (.inr (.inr (fun _ => none))))) : mz_C) = .inl (cA, N, .inr (.inr (.inr (.inr (fun _ => none))))) := by
    show Sum.inl (G.2.2 t, N, _) = _
    rw [e3]; rfl
  exact mz_made (ln := 3) (nc := .inl (t, N, .inr (.inr (.inr (.inr (fun _ => none)))))) hn (fun j a hj => by cases hj) hol (mz_okS_tl hos) ok rep hl hm1 hm2 (by rw [eE]; exact hP1) (by rw [eE]; exact hD1) hS1 h
theorem mz_objInit {a : Nat} (hd : decode cc pc = .ok (.invokespecial idx, 3)) (w : Cond.methodLink (nm_Own cn) idx objectInit ∈ nm_Ts ∧ Cond.instanceMethod objectInit ∈ nm_Ts ∧ Cond.code objectInit ⟨#[0xb1]⟩ 1 none ∈ nm_Ts) (hf : 1 ≤ rm.frames) (hlo : (r.map fun v => v.category).sum + 12 ≤ rm.locals)
    (h : mz_X G X cn ini cc nL ret rm post thr (pc + 3) l r k1 k2 n f) : mz_X G X cn ini cc nL ret rm post thr pc l (.ref a :: r) k1 k2 n f := by
  intro hk1 hk2 hol hos p e s m args below meth c A H locs ls ad ad0 n0 ok rep hl
  obtain ⟨hx, hb, hml, hr, hown, hin, hlocks, hts, hns, hK, hA⟩ := id ok
  refine W.objInit (a := ad a) (rest := r.map (mz_v ad)) hx hb hown (hts _ w.1) (hts _ w.2.1) (hts _ w.2.2) rfl (by rw [hml]; exact hl.1) rfl hd hf ?_ ?_
  · show 2 * 0 + ((r.map (mz_v ad)).map fun v => v.category).sum + 12 ≤ _
    rw [List.map_map, show ((fun v : Value => v.category) ∘ mz_v ad) = (fun v => v.category) from funext (mz_v_cat ad)]; omega
  · exact h hk1 hk2 hol (mz_okS_tl hos) p e s m args below meth c A H locs ls ad ad0 n0 ok rep hl
theorem mz_mmax {x y : Int32} (hd : decode cc pc = .ok (.invokestatic idx, 3)) (w : Cond.methodLink (nm_Own cn) idx Lib.Math.max.name ∈ nm_Ts ∧ Cond.static Lib.Math.max.name ∈ nm_Ts ∧ Cond.initialized "java/lang/Math" ∈ nm_Ts ∧ Cond.code Lib.Math.max.name Lib.Math.max.code 2 (some .int) ∈ nm_Ts) (hf : 1 ≤ rm.frames) (hlo : (r.map fun v => v.category).sum + 13 ≤ rm.locals)
    (h : mz_X G X cn ini cc nL ret rm post thr (pc + 3) l (.int (if x < y then y else x) :: r) k1 k2 n f) : mz_X G X cn ini cc nL ret rm post thr pc l (.int y :: .int x :: r) k1 k2 n f := by
  intro hk1 hk2 hol hos p e s m args below meth c A H locs ls ad ad0 n0 ok rep hl
  obtain ⟨hx, hb, hml, hr, hown, hin, hlocks, hts, hns, hK, hA⟩ := id ok
  refine va_mmax hx hb (by rw [hml]; exact hl.1.symm) hown (hts _ w.1) (hts _ w.2.1) (hts _ w.2.2.1) (hts _ w.2.2.2) hf ?_ hk1 hk2 hd ?_
  · rw [List.map_map, show ((fun v : Value => v.category) ∘ mz_v ad) = (fun v => v.category) from funext (mz_v_cat ad)]; omega
  · exact h hk1 hk2 hol (mz_okS_c trivial (mz_okS_tl (mz_okS_tl hos))) p e s m args below meth c A H locs ls ad ad0 n0 ok rep hl
end MZN
end
section
theorem nF_0 : nm_Fld 0 11 = some (0, 0) ∧ nm_Fld 0 17 = some (0, 1) ∧ nm_Fld 0 21 = some (0, 2) ∧ nm_Fld 0 28 = some (0, 3) ∧ nm_Fld 0 35 = some (0, 4) ∧ nm_Fld 0 42 = some (0, 5) ∧ nm_Fld 0 49 = some (0, 6) ∧ nm_Fld 0 56 = some (0, 7) ∧ nm_Fld 0 77 = some (2, 0) ∧ nm_Fld 0 103 = some (1, 2) ∧ nm_Fld 0 183 = some (4, 1) ∧ nm_Fld 0 200 = some (10, 1) ∧ nm_Fld 0 204 = some (7, 1) ∧ nm_Fld 0 211 = some (7, 0) ∧ nm_Fld 0 216 = some (10, 0) ∧ nm_Fld 0 219 = some (5, 0) ∧ nm_Fld 0 222 = some (5, 1) ∧ nm_Fld 0 225 = some (1, 3) ∧ nm_Fld 0 228 = some (9, 2) ∧ nm_Fld 0 231 = some (3, 2) := by decide +kernel
theorem nF_1 : nm_Fld 1 9 = some (1, 0) ∧ nm_Fld 1 15 = some (1, 1) ∧ nm_Fld 1 18 = some (1, 2) ∧ nm_Fld 1 27 = some (1, 3) ∧ nm_Fld 1 35 = some (2, 0) := by decide +kernel
theorem nF_2 : nm_Fld 2 9 = some (2, 0) := by decide +kernel
theorem nF_3 : nm_Fld 3 10 = some (3, 0) ∧ nm_Fld 3 16 = some (3, 1) ∧ nm_Fld 3 19 = some (4, 1) ∧ nm_Fld 3 23 = some (3, 2) := by decide +kernel
theorem nF_4 : nm_Fld 4 11 = some (4, 0) ∧ nm_Fld 4 17 = some (4, 1) ∧ nm_Fld 4 35 = some (2, 0) := by decide +kernel
theorem nF_5 : nm_Fld 5 9 = some (5, 0) ∧ nm_Fld 5 15 = some (5, 1) := by decide +kernel
theorem nF_6 : nm_Fld 6 9 = some (6, 0) ∧ nm_Fld 6 15 = some (6, 1) ∧ nm_Fld 6 25 = some (6, 2) := by decide +kernel
theorem nF_7 : nm_Fld 7 11 = some (7, 0) ∧ nm_Fld 7 16 = some (7, 1) := by decide +kernel
theorem nF_8 : nm_Fld 8 14 = some (8, 0) ∧ nm_Fld 8 20 = some (4, 1) ∧ nm_Fld 8 36 = some (6, 2) ∧ nm_Fld 8 58 = some (2, 0) ∧ nm_Fld 8 78 = some (6, 1) := by decide +kernel
theorem nF_9 : nm_Fld 9 9 = some (9, 0) ∧ nm_Fld 9 17 = some (9, 1) ∧ nm_Fld 9 21 = some (9, 2) ∧ nm_Fld 9 33 = some (4, 1) ∧ nm_Fld 9 46 = some (4, 0) ∧ nm_Fld 9 67 = some (2, 0) := by decide +kernel
theorem nF_10 : nm_Fld 10 9 = some (10, 0) ∧ nm_Fld 10 18 = some (10, 1) ∧ nm_Fld 10 27 = some (10, 2) ∧ nm_Fld 10 31 = some (10, 3) ∧ nm_Fld 10 34 = some (10, 4) ∧ nm_Fld 10 49 = some (4, 1) ∧ nm_Fld 10 101 = some (6, 2) ∧ nm_Fld 10 120 = some (1, 2) := by decide +kernel
theorem nF_11 : nm_Fld 11 7 = some (11, 2) ∧ nm_Fld 11 13 = some (11, 3) ∧ nm_Fld 11 17 = some (11, 4) ∧ nm_Fld 11 21 = some (11, 5) ∧ nm_Fld 11 24 = some (11, 6) ∧ nm_Fld 11 27 = some (11, 7) ∧ nm_Fld 11 30 = some (11, 8) ∧ nm_Fld 11 33 = some (11, 9) ∧ nm_Fld 11 36 = some (11, 10) ∧ nm_Fld 11 39 = some (11, 11) ∧ nm_Fld 11 42 = some (11, 12) ∧ nm_Fld 11 45 = some (11, 13) ∧ nm_Fld 11 48 = some (11, 18) ∧ nm_Fld 11 52 = some (11, 0) ∧ nm_Fld 11 62 = some (11, 1) ∧ nm_Fld 11 105 = some (11, 15) ∧ nm_Fld 11 133 = some (11, 16) ∧ nm_Fld 11 148 = some (11, 17) ∧ nm_Fld 11 188 = some (11, 14) := by decide +kernel
theorem nF_12 : nm_Fld 12 9 = some (4, 1) ∧ nm_Fld 12 66 = some (2, 0) := by decide +kernel
end
section
def y_Office_init : MethodName := ⟨"CardOffice", "<init>", "()V"⟩
abbrev b_Office_init : ByteArray := prog_1_method_1_code
def r_Office_init (c s : Nat) : Room := { frames := 3, cells := c, slots := s, locals := 56 }
theorem d_Office_init : decode b_Office_init 0 = .ok (.aload_n 0, 1) ∧ decode b_Office_init 1 = .ok (.invokespecial 1, 3) ∧ decode b_Office_init 4 = .ok (.aload_n 0, 1) ∧ decode b_Office_init 5 = .ok (.bipush 8, 2) ∧ decode b_Office_init 7 = .ok (.anewarray 9, 3) ∧ decode b_Office_init 10 = .ok (.putfield 11, 3) ∧ decode b_Office_init 13 = .ok (.aload_n 0, 1) ∧ decode b_Office_init 14 = .ok (.iconst 4, 1) ∧ decode b_Office_init 15 = .ok (.anewarray 15, 3) ∧ decode b_Office_init 18 = .ok (.putfield 17, 3) ∧ decode b_Office_init 21 = .ok (.aload_n 0, 1) ∧ decode b_Office_init 22 = .ok (.bipush 16, 2) ∧ decode b_Office_init 24 = .ok (.newarray .int, 2) ∧ decode b_Office_init 26 = .ok (.putfield 21, 3) ∧ decode b_Office_init 29 = .ok (.aload_n 0, 1) ∧ decode b_Office_init 30 = .ok (.new 25, 3) ∧ decode b_Office_init 33 = .ok (.dup, 1) ∧ decode b_Office_init 34 = .ok (.invokespecial 27, 3) ∧ decode b_Office_init 37 = .ok (.putfield 28, 3) ∧ decode b_Office_init 40 = .ok (.aload_n 0, 1) ∧ decode b_Office_init 41 = .ok (.new 32, 3) ∧ decode b_Office_init 44 = .ok (.dup, 1) ∧ decode b_Office_init 45 = .ok (.invokespecial 34, 3) ∧ decode b_Office_init 48 = .ok (.putfield 35, 3) ∧ decode b_Office_init 51 = .ok (.aload_n 0, 1) ∧ decode b_Office_init 52 = .ok (.new 39, 3) ∧ decode b_Office_init 55 = .ok (.dup, 1) ∧ decode b_Office_init 56 = .ok (.invokespecial 41, 3) ∧ decode b_Office_init 59 = .ok (.putfield 42, 3) ∧ decode b_Office_init 62 = .ok (.aload_n 0, 1) ∧ decode b_Office_init 63 = .ok (.new 46, 3) ∧ decode b_Office_init 66 = .ok (.dup, 1) ∧ decode b_Office_init 67 = .ok (.invokespecial 48, 3) ∧ decode b_Office_init 70 = .ok (.putfield 49, 3) ∧ decode b_Office_init 73 = .ok (.aload_n 0, 1) ∧ decode b_Office_init 74 = .ok (.new 53, 3) ∧ decode b_Office_init 77 = .ok (.dup, 1) ∧ decode b_Office_init 78 = .ok (.invokespecial 55, 3) ∧ decode b_Office_init 81 = .ok (.putfield 56, 3) ∧ decode b_Office_init 84 = .ok (.iconst 0, 1) ∧ decode b_Office_init 85 = .ok (.istore_n 1, 1) ∧ decode b_Office_init 86 = .ok (.iload_n 1, 1) ∧ decode b_Office_init 87 = .ok (.bipush 8, 2) ∧ decode b_Office_init 89 = .ok (.if_icmp .ge 22, 3) ∧ decode b_Office_init 92 = .ok (.aload_n 0, 1) ∧ decode b_Office_init 93 = .ok (.getfield 11, 3) ∧ decode b_Office_init 96 = .ok (.iload_n 1, 1) ∧ decode b_Office_init 97 = .ok (.new 9, 3) ∧ decode b_Office_init 100 = .ok (.dup, 1) ∧ decode b_Office_init 101 = .ok (.invokespecial 60, 3) ∧ decode b_Office_init 104 = .ok (.aastore, 1) ∧ decode b_Office_init 105 = .ok (.iinc 1 1, 3) ∧ decode b_Office_init 108 = .ok (.goto (-22), 3) ∧ decode b_Office_init 111 = .ok (.iconst 0, 1) ∧ decode b_Office_init 112 = .ok (.istore_n 1, 1) ∧ decode b_Office_init 113 = .ok (.iload_n 1, 1) ∧ decode b_Office_init 114 = .ok (.iconst 4, 1) ∧ decode b_Office_init 115 = .ok (.if_icmp .ge 22, 3) ∧ decode b_Office_init 118 = .ok (.aload_n 0, 1) ∧ decode b_Office_init 119 = .ok (.getfield 17, 3) ∧ decode b_Office_init 122 = .ok (.iload_n 1, 1) ∧ decode b_Office_init 123 = .ok (.new 15, 3) ∧ decode b_Office_init 126 = .ok (.dup, 1) ∧ decode b_Office_init 127 = .ok (.invokespecial 61, 3) ∧ decode b_Office_init 130 = .ok (.aastore, 1) ∧ decode b_Office_init 131 = .ok (.iinc 1 1, 3) ∧ decode b_Office_init 134 = .ok (.goto (-21), 3) ∧ decode b_Office_init 137 = .ok (.return_, 1) := ⟨by decide +kernel, by decide +kernel, by decide +kernel, by decide +kernel, by decide +kernel, by decide +kernel, by decide +kernel, by decide +kernel, by decide +kernel, by decide +kernel, by decide +kernel, by decide +kernel, by decide +kernel, by decide +kernel, by decide +kernel, by decide +kernel, by decide +kernel, by decide +kernel, by decide +kernel, by decide +kernel, by decide +kernel, by decide +kernel, by decide +kernel, by decide +kernel, by decide +kernel, by decide +kernel, by decide +kernel, by decide +kernel, by decide +kernel, by decide +kernel, by decide +kernel, by decide +kernel, by decide +kernel, by decide +kernel, by decide +kernel, by decide +kernel, by decide +kernel, by decide +kernel, by decide +kernel, by decide +kernel, by decide +kernel, by decide +kernel, by decide +kernel, by decide +kernel, by decide +kernel, by decide +kernel, by decide +kernel, by decide +kernel, by decide +kernel, by decide +kernel, by decide +kernel, by decide +kernel, by decide +kernel, by decide +kernel, by decide +kernel, by decide +kernel, by decide +kernel, by decide +kernel, by decide +kernel, by decide +kernel, by decide +kernel, by decide +kernel, by decide +kernel, by decide +kernel, by decide +kernel, by decide +kernel, by decide +kernel, by decide +kernel⟩
theorem i_Office_init : Cond.instanceMethod y_Office_init ∈ nm_Ts ∧ y_Office_init.name = "<init>" ∧ Cond.initialized y_Office_init.cls ∈ nm_Ts ∧ Cond.code y_Office_init b_Office_init 2 none ∈ nm_Ts ∧ mz_cl1 y_Office_init 0 := ⟨nm_t1 26 rfl rfl, rfl, nm_t1 1 rfl rfl, nm_t1 27 rfl rfl, by decide +kernel⟩
def y_FaultLight_init : MethodName := ⟨"CardOffice$FaultLight", "<init>", "()V"⟩
abbrev b_FaultLight_init : ByteArray := prog_6_method_1_code
def r_FaultLight_init (c s : Nat) : Room := { frames := 1, cells := c, slots := s, locals := 14 }
theorem d_FaultLight_init : decode b_FaultLight_init 0 = .ok (.aload_n 0, 1) ∧ decode b_FaultLight_init 1 = .ok (.invokespecial 3, 3) ∧ decode b_FaultLight_init 4 = .ok (.aload_n 0, 1) ∧ decode b_FaultLight_init 5 = .ok (.iconst 0, 1) ∧ decode b_FaultLight_init 6 = .ok (.putfield 9, 3) ∧ decode b_FaultLight_init 9 = .ok (.aload_n 0, 1) ∧ decode b_FaultLight_init 10 = .ok (.iconst (-1), 1) ∧ decode b_FaultLight_init 11 = .ok (.putfield 15, 3) ∧ decode b_FaultLight_init 14 = .ok (.return_, 1) := ⟨by decide +kernel, by decide +kernel, by decide +kernel, by decide +kernel, by decide +kernel, by decide +kernel, by decide +kernel, by decide +kernel, by decide +kernel⟩
theorem i_FaultLight_init : Cond.instanceMethod y_FaultLight_init ∈ nm_Ts ∧ y_FaultLight_init.name = "<init>" ∧ Cond.initialized y_FaultLight_init.cls ∈ nm_Ts ∧ Cond.code y_FaultLight_init b_FaultLight_init 1 none ∈ nm_Ts ∧ mz_cl1 y_FaultLight_init 0 := ⟨nm_t1 38 rfl rfl, rfl, nm_t1 2 rfl rfl, nm_t1 39 rfl rfl, by decide +kernel⟩
def y_Sorter_init : MethodName := ⟨"CardOffice$Sorter", "<init>", "()V"⟩
abbrev b_Sorter_init : ByteArray := prog_11_method_1_code
def r_Sorter_init (c s : Nat) : Room := { frames := 1, cells := c, slots := s, locals := 14 }
theorem d_Sorter_init : decode b_Sorter_init 0 = .ok (.aload_n 0, 1) ∧ decode b_Sorter_init 1 = .ok (.invokespecial 3, 3) ∧ decode b_Sorter_init 4 = .ok (.aload_n 0, 1) ∧ decode b_Sorter_init 5 = .ok (.bipush 11, 2) ∧ decode b_Sorter_init 7 = .ok (.newarray .int, 2) ∧ decode b_Sorter_init 9 = .ok (.putfield 9, 3) ∧ decode b_Sorter_init 12 = .ok (.aload_n 0, 1) ∧ decode b_Sorter_init 13 = .ok (.sipush 200, 3) ∧ decode b_Sorter_init 16 = .ok (.anewarray 15, 3) ∧ decode b_Sorter_init 19 = .ok (.putfield 17, 3) ∧ decode b_Sorter_init 22 = .ok (.return_, 1) := ⟨by decide +kernel, by decide +kernel, by decide +kernel, by decide +kernel, by decide +kernel, by decide +kernel, by decide +kernel, by decide +kernel, by decide +kernel, by decide +kernel, by decide +kernel⟩
theorem i_Sorter_init : Cond.instanceMethod y_Sorter_init ∈ nm_Ts ∧ y_Sorter_init.name = "<init>" ∧ Cond.initialized y_Sorter_init.cls ∈ nm_Ts ∧ Cond.code y_Sorter_init b_Sorter_init 1 none ∈ nm_Ts ∧ mz_cl1 y_Sorter_init 0 := ⟨nm_t1 54 rfl rfl, rfl, nm_t1 3 rfl rfl, nm_t1 55 rfl rfl, by decide +kernel⟩
def y_Collator_init : MethodName := ⟨"CardOffice$Collator", "<init>", "()V"⟩
abbrev b_Collator_init : ByteArray := prog_4_method_1_code
def r_Collator_init (c s : Nat) : Room := { frames := 2, cells := c, slots := s, locals := 34 }
theorem d_Collator_init : decode b_Collator_init 0 = .ok (.aload_n 0, 1) ∧ decode b_Collator_init 1 = .ok (.invokespecial 1, 3) ∧ decode b_Collator_init 4 = .ok (.aload_n 0, 1) ∧ decode b_Collator_init 5 = .ok (.new 7, 3) ∧ decode b_Collator_init 8 = .ok (.dup, 1) ∧ decode b_Collator_init 9 = .ok (.invokespecial 9, 3) ∧ decode b_Collator_init 12 = .ok (.putfield 10, 3) ∧ decode b_Collator_init 15 = .ok (.aload_n 0, 1) ∧ decode b_Collator_init 16 = .ok (.new 7, 3) ∧ decode b_Collator_init 19 = .ok (.dup, 1) ∧ decode b_Collator_init 20 = .ok (.invokespecial 9, 3) ∧ decode b_Collator_init 23 = .ok (.putfield 16, 3) ∧ decode b_Collator_init 26 = .ok (.return_, 1) := ⟨by decide +kernel, by decide +kernel, by decide +kernel, by decide +kernel, by decide +kernel, by decide +kernel, by decide +kernel, by decide +kernel, by decide +kernel, by decide +kernel, by decide +kernel, by decide +kernel, by decide +kernel⟩
theorem i_Collator_init : Cond.instanceMethod y_Collator_init ∈ nm_Ts ∧ y_Collator_init.name = "<init>" ∧ Cond.initialized y_Collator_init.cls ∈ nm_Ts ∧ Cond.code y_Collator_init b_Collator_init 1 none ∈ nm_Ts ∧ mz_cl1 y_Collator_init 0 := ⟨nm_t1 73 rfl rfl, rfl, nm_t1 4 rfl rfl, nm_t1 74 rfl rfl, by decide +kernel⟩
def y_Deck_init : MethodName := ⟨"CardOffice$Deck", "<init>", "()V"⟩
abbrev b_Deck_init : ByteArray := prog_5_method_1_code
def r_Deck_init (c s : Nat) : Room := { frames := 1, cells := c, slots := s, locals := 14 }
theorem d_Deck_init : decode b_Deck_init 0 = .ok (.aload_n 0, 1) ∧ decode b_Deck_init 1 = .ok (.invokespecial 3, 3) ∧ decode b_Deck_init 4 = .ok (.aload_n 0, 1) ∧ decode b_Deck_init 5 = .ok (.sipush 200, 3) ∧ decode b_Deck_init 8 = .ok (.anewarray 9, 3) ∧ decode b_Deck_init 11 = .ok (.putfield 11, 3) ∧ decode b_Deck_init 14 = .ok (.return_, 1) := ⟨by decide +kernel, by decide +kernel, by decide +kernel, by decide +kernel, by decide +kernel, by decide +kernel, by decide +kernel⟩
theorem i_Deck_init : Cond.instanceMethod y_Deck_init ∈ nm_Ts ∧ y_Deck_init.name = "<init>" ∧ Cond.initialized y_Deck_init.cls ∈ nm_Ts ∧ Cond.code y_Deck_init b_Deck_init 1 none ∈ nm_Ts ∧ mz_cl1 y_Deck_init 0 := ⟨nm_t1 79 rfl rfl, rfl, nm_t1 5 rfl rfl, nm_t1 80 rfl rfl, by decide +kernel⟩
def y_Reproducer_init : MethodName := ⟨"CardOffice$Reproducer", "<init>", "()V"⟩
abbrev b_Reproducer_init : ByteArray := prog_10_method_1_code
def r_Reproducer_init (c s : Nat) : Room := { frames := 2, cells := c, slots := s, locals := 36 }
theorem d_Reproducer_init : decode b_Reproducer_init 0 = .ok (.aload_n 0, 1) ∧ decode b_Reproducer_init 1 = .ok (.invokespecial 3, 3) ∧ decode b_Reproducer_init 4 = .ok (.aload_n 0, 1) ∧ decode b_Reproducer_init 5 = .ok (.new 9, 3) ∧ decode b_Reproducer_init 8 = .ok (.dup, 1) ∧ decode b_Reproducer_init 9 = .ok (.iconst 0, 1) ∧ decode b_Reproducer_init 10 = .ok (.bipush 16, 2) ∧ decode b_Reproducer_init 12 = .ok (.invokespecial 11, 3) ∧ decode b_Reproducer_init 15 = .ok (.putfield 14, 3) ∧ decode b_Reproducer_init 18 = .ok (.return_, 1) := ⟨by decide +kernel, by decide +kernel, by decide +kernel, by decide +kernel, by decide +kernel, by decide +kernel, by decide +kernel, by decide +kernel, by decide +kernel, by decide +kernel⟩
theorem i_Reproducer_init : Cond.instanceMethod y_Reproducer_init ∈ nm_Ts ∧ y_Reproducer_init.name = "<init>" ∧ Cond.initialized y_Reproducer_init.cls ∈ nm_Ts ∧ Cond.code y_Reproducer_init b_Reproducer_init 1 none ∈ nm_Ts ∧ mz_cl1 y_Reproducer_init 0 := ⟨nm_t1 111 rfl rfl, rfl, nm_t1 6 rfl rfl, nm_t1 112 rfl rfl, by decide +kernel⟩
def y_Jacks_init : MethodName := ⟨"CardOffice$Jacks", "<init>", "(II)V"⟩
abbrev b_Jacks_init : ByteArray := prog_7_method_1_code
def r_Jacks_init (c s : Nat) : Room := { frames := 1, cells := c, slots := s, locals := 14 }
theorem d_Jacks_init : decode b_Jacks_init 0 = .ok (.aload_n 0, 1) ∧ decode b_Jacks_init 1 = .ok (.invokespecial 3, 3) ∧ decode b_Jacks_init 4 = .ok (.aload_n 0, 1) ∧ decode b_Jacks_init 5 = .ok (.iload_n 1, 1) ∧ decode b_Jacks_init 6 = .ok (.putfield 9, 3) ∧ decode b_Jacks_init 9 = .ok (.aload_n 0, 1) ∧ decode b_Jacks_init 10 = .ok (.iload_n 2, 1) ∧ decode b_Jacks_init 11 = .ok (.newarray .int, 2) ∧ decode b_Jacks_init 13 = .ok (.putfield 15, 3) ∧ decode b_Jacks_init 16 = .ok (.return_, 1) := ⟨by decide +kernel, by decide +kernel, by decide +kernel, by decide +kernel, by decide +kernel, by decide +kernel, by decide +kernel, by decide +kernel, by decide +kernel, by decide +kernel⟩
theorem i_Jacks_init : Cond.instanceMethod y_Jacks_init ∈ nm_Ts ∧ y_Jacks_init.name = "<init>" ∧ Cond.initialized y_Jacks_init.cls ∈ nm_Ts ∧ Cond.code y_Jacks_init b_Jacks_init 3 none ∈ nm_Ts ∧ mz_cl1 y_Jacks_init 2 := ⟨nm_t1 117 rfl rfl, rfl, nm_t1 7 rfl rfl, nm_t1 118 rfl rfl, by decide +kernel⟩
def y_Tabulator_init : MethodName := ⟨"CardOffice$Tabulator", "<init>", "()V"⟩
abbrev b_Tabulator_init : ByteArray := prog_12_method_1_code
def r_Tabulator_init (c s : Nat) : Room := { frames := 2, cells := c, slots := s, locals := 36 }
theorem d_Tabulator_init : decode b_Tabulator_init 0 = .ok (.aload_n 0, 1) ∧ decode b_Tabulator_init 1 = .ok (.invokespecial 3, 3) ∧ decode b_Tabulator_init 4 = .ok (.aload_n 0, 1) ∧ decode b_Tabulator_init 5 = .ok (.iconst 4, 1) ∧ decode b_Tabulator_init 6 = .ok (.newarray .int, 2) ∧ decode b_Tabulator_init 8 = .ok (.putfield 9, 3) ∧ decode b_Tabulator_init 11 = .ok (.aload_n 0, 1) ∧ decode b_Tabulator_init 12 = .ok (.new 15, 3) ∧ decode b_Tabulator_init 15 = .ok (.dup, 1) ∧ decode b_Tabulator_init 16 = .ok (.invokespecial 17, 3) ∧ decode b_Tabulator_init 19 = .ok (.putfield 18, 3) ∧ decode b_Tabulator_init 22 = .ok (.aload_n 0, 1) ∧ decode b_Tabulator_init 23 = .ok (.new 22, 3) ∧ decode b_Tabulator_init 26 = .ok (.dup, 1) ∧ decode b_Tabulator_init 27 = .ok (.bipush 32, 2) ∧ decode b_Tabulator_init 29 = .ok (.bipush 24, 2) ∧ decode b_Tabulator_init 31 = .ok (.invokespecial 24, 3) ∧ decode b_Tabulator_init 34 = .ok (.putfield 27, 3) ∧ decode b_Tabulator_init 37 = .ok (.aload_n 0, 1) ∧ decode b_Tabulator_init 38 = .ok (.new 22, 3) ∧ decode b_Tabulator_init 41 = .ok (.dup, 1) ∧ decode b_Tabulator_init 42 = .ok (.bipush 32, 2) ∧ decode b_Tabulator_init 44 = .ok (.bipush 24, 2) ∧ decode b_Tabulator_init 46 = .ok (.invokespecial 24, 3) ∧ decode b_Tabulator_init 49 = .ok (.putfield 31, 3) ∧ decode b_Tabulator_init 52 = .ok (.aload_n 0, 1) ∧ decode b_Tabulator_init 53 = .ok (.new 22, 3) ∧ decode b_Tabulator_init 56 = .ok (.dup, 1) ∧ decode b_Tabulator_init 57 = .ok (.bipush 64, 2) ∧ decode b_Tabulator_init 59 = .ok (.bipush 24, 2) ∧ decode b_Tabulator_init 61 = .ok (.invokespecial 24, 3) ∧ decode b_Tabulator_init 64 = .ok (.putfield 34, 3) ∧ decode b_Tabulator_init 67 = .ok (.return_, 1) := ⟨by decide +kernel, by decide +kernel, by decide +kernel, by decide +kernel, by decide +kernel, by decide +kernel, by decide +kernel, by decide +kernel, by decide +kernel, by decide +kernel, by decide +kernel, by decide +kernel, by decide +kernel, by decide +kernel, by decide +kernel, by decide +kernel, by decide +kernel, by decide +kernel, by decide +kernel, by decide +kernel, by decide +kernel, by decide +kernel, by decide +kernel, by decide +kernel, by decide +kernel, by decide +kernel, by decide +kernel, by decide +kernel, by decide +kernel, by decide +kernel, by decide +kernel, by decide +kernel, by decide +kernel⟩
theorem i_Tabulator_init : Cond.instanceMethod y_Tabulator_init ∈ nm_Ts ∧ y_Tabulator_init.name = "<init>" ∧ Cond.initialized y_Tabulator_init.cls ∈ nm_Ts ∧ Cond.code y_Tabulator_init b_Tabulator_init 1 none ∈ nm_Ts ∧ mz_cl1 y_Tabulator_init 0 := ⟨nm_t1 140 rfl rfl, rfl, nm_t1 8 rfl rfl, nm_t1 141 rfl rfl, by decide +kernel⟩
def y_Paper_init : MethodName := ⟨"CardOffice$Paper", "<init>", "()V"⟩
abbrev b_Paper_init : ByteArray := prog_9_method_1_code
def r_Paper_init (c s : Nat) : Room := { frames := 1, cells := c, slots := s, locals := 14 }
theorem d_Paper_init : decode b_Paper_init 0 = .ok (.aload_n 0, 1) ∧ decode b_Paper_init 1 = .ok (.invokespecial 3, 3) ∧ decode b_Paper_init 4 = .ok (.aload_n 0, 1) ∧ decode b_Paper_init 5 = .ok (.bipush 100, 2) ∧ decode b_Paper_init 7 = .ok (.bipush 24, 2) ∧ decode b_Paper_init 9 = .ok (.multianewarray 9 2, 4) ∧ decode b_Paper_init 13 = .ok (.putfield 11, 3) ∧ decode b_Paper_init 16 = .ok (.return_, 1) := ⟨by decide +kernel, by decide +kernel, by decide +kernel, by decide +kernel, by decide +kernel, by decide +kernel, by decide +kernel, by decide +kernel⟩
theorem i_Paper_init : Cond.instanceMethod y_Paper_init ∈ nm_Ts ∧ y_Paper_init.name = "<init>" ∧ Cond.initialized y_Paper_init.cls ∈ nm_Ts ∧ Cond.code y_Paper_init b_Paper_init 1 none ∈ nm_Ts ∧ mz_cl1 y_Paper_init 0 := ⟨nm_t1 146 rfl rfl, rfl, nm_t1 9 rfl rfl, nm_t1 147 rfl rfl, by decide +kernel⟩
def y_Board_init : MethodName := ⟨"CardOffice$Board", "<init>", "()V"⟩
abbrev b_Board_init : ByteArray := prog_2_method_1_code
def r_Board_init (c s : Nat) : Room := { frames := 1, cells := c, slots := s, locals := 23 }
theorem d_Board_init : decode b_Board_init 0 = .ok (.aload_n 0, 1) ∧ decode b_Board_init 1 = .ok (.invokespecial 3, 3) ∧ decode b_Board_init 4 = .ok (.aload_n 0, 1) ∧ decode b_Board_init 5 = .ok (.bipush 40, 2) ∧ decode b_Board_init 7 = .ok (.newarray .int, 2) ∧ decode b_Board_init 9 = .ok (.putfield 9, 3) ∧ decode b_Board_init 12 = .ok (.aload_n 0, 1) ∧ decode b_Board_init 13 = .ok (.bipush 40, 2) ∧ decode b_Board_init 15 = .ok (.newarray .int, 2) ∧ decode b_Board_init 17 = .ok (.putfield 15, 3) ∧ decode b_Board_init 20 = .ok (.aload_n 0, 1) ∧ decode b_Board_init 21 = .ok (.iconst 4, 1) ∧ decode b_Board_init 22 = .ok (.newarray .int, 2) ∧ decode b_Board_init 24 = .ok (.putfield 18, 3) ∧ decode b_Board_init 27 = .ok (.aload_n 0, 1) ∧ decode b_Board_init 28 = .ok (.getfield 18, 3) ∧ decode b_Board_init 31 = .ok (.iconst 3, 1) ∧ decode b_Board_init 32 = .ok (.invokestatic 21, 3) ∧ decode b_Board_init 35 = .ok (.return_, 1) := ⟨by decide +kernel, by decide +kernel, by decide +kernel, by decide +kernel, by decide +kernel, by decide +kernel, by decide +kernel, by decide +kernel, by decide +kernel, by decide +kernel, by decide +kernel, by decide +kernel, by decide +kernel, by decide +kernel, by decide +kernel, by decide +kernel, by decide +kernel, by decide +kernel, by decide +kernel⟩
theorem i_Board_init : Cond.instanceMethod y_Board_init ∈ nm_Ts ∧ y_Board_init.name = "<init>" ∧ Cond.initialized y_Board_init.cls ∈ nm_Ts ∧ Cond.code y_Board_init b_Board_init 1 none ∈ nm_Ts ∧ mz_cl1 y_Board_init 0 := ⟨nm_t1 183 rfl rfl, rfl, nm_t1 10 rfl rfl, nm_t1 184 rfl rfl, by decide +kernel⟩
def y_Arrays_fill : MethodName := ⟨"java/util/Arrays", "fill", "([II)V"⟩
abbrev b_Arrays_fill : ByteArray := prog_24_method_103_code
def r_Arrays_fill (c s : Nat) : Room := { frames := 0, cells := c, slots := s, locals := 0 }
theorem d_Arrays_fill : decode b_Arrays_fill 0 = .ok (.iconst 0, 1) ∧ decode b_Arrays_fill 1 = .ok (.istore_n 2, 1) ∧ decode b_Arrays_fill 2 = .ok (.aload_n 0, 1) ∧ decode b_Arrays_fill 3 = .ok (.arraylength, 1) ∧ decode b_Arrays_fill 4 = .ok (.istore_n 3, 1) ∧ decode b_Arrays_fill 5 = .ok (.iload_n 2, 1) ∧ decode b_Arrays_fill 6 = .ok (.iload_n 3, 1) ∧ decode b_Arrays_fill 7 = .ok (.if_icmp .ge 13, 3) ∧ decode b_Arrays_fill 10 = .ok (.aload_n 0, 1) ∧ decode b_Arrays_fill 11 = .ok (.iload_n 2, 1) ∧ decode b_Arrays_fill 12 = .ok (.iload_n 1, 1) ∧ decode b_Arrays_fill 13 = .ok (.iastore, 1) ∧ decode b_Arrays_fill 14 = .ok (.iinc 2 1, 3) ∧ decode b_Arrays_fill 17 = .ok (.goto (-12), 3) ∧ decode b_Arrays_fill 20 = .ok (.return_, 1) := ⟨by decide +kernel, by decide +kernel, by decide +kernel, by decide +kernel, by decide +kernel, by decide +kernel, by decide +kernel, by decide +kernel, by decide +kernel, by decide +kernel, by decide +kernel, by decide +kernel, by decide +kernel, by decide +kernel, by decide +kernel⟩
theorem s_Arrays_fill : Cond.static y_Arrays_fill ∈ nm_Ts ∧ Cond.initialized y_Arrays_fill.cls ∈ nm_Ts ∧ Cond.code y_Arrays_fill b_Arrays_fill 4 none ∈ nm_Ts ∧ mz_cl1 y_Arrays_fill 2 := ⟨nm_t1 187 rfl rfl, nm_t1 11 rfl rfl, nm_t1 188 rfl rfl, by decide +kernel⟩
def y_Office_card : MethodName := ⟨"CardOffice", "card", "(IJJ)Z"⟩
abbrev b_Office_card : ByteArray := prog_1_method_2_code
def r_Office_card (c s : Nat) : Room := { frames := 2, cells := c, slots := s, locals := 45 }
theorem d_Office_card : decode b_Office_card 0 = .ok (.iload_n 1, 1) ∧ decode b_Office_card 1 = .ok (.invokestatic 62, 3) ∧ decode b_Office_card 4 = .ok (.ifCond .eq 13, 3) ∧ decode b_Office_card 7 = .ok (.aload_n 0, 1) ∧ decode b_Office_card 8 = .ok (.invokevirtual 66, 3) ∧ decode b_Office_card 11 = .ok (.sipush 200, 3) ∧ decode b_Office_card 14 = .ok (.if_icmp .lt 5, 3) ∧ decode b_Office_card 17 = .ok (.iconst 0, 1) ∧ decode b_Office_card 18 = .ok (.ireturn, 1) ∧ decode b_Office_card 19 = .ok (.aload_n 0, 1) ∧ decode b_Office_card 20 = .ok (.lload_n 2, 1) ∧ decode b_Office_card 21 = .ok (.iconst 0, 1) ∧ decode b_Office_card 22 = .ok (.invokevirtual 70, 3) ∧ decode b_Office_card 25 = .ok (.ifCond .eq 14, 3) ∧ decode b_Office_card 28 = .ok (.aload_n 0, 1) ∧ decode b_Office_card 29 = .ok (.lload 4, 2) ∧ decode b_Office_card 31 = .ok (.bipush 8, 2) ∧ decode b_Office_card 33 = .ok (.invokevirtual 70, 3) ∧ decode b_Office_card 36 = .ok (.ifCond .ne 5, 3) ∧ decode b_Office_card 39 = .ok (.iconst 0, 1) ∧ decode b_Office_card 40 = .ok (.ireturn, 1) ∧ decode b_Office_card 41 = .ok (.new 74, 3) ∧ decode b_Office_card 44 = .ok (.dup, 1) ∧ decode b_Office_card 45 = .ok (.invokespecial 76, 3) ∧ decode b_Office_card 48 = .ok (.astore 6, 2) ∧ decode b_Office_card 50 = .ok (.iconst 0, 1) ∧ decode b_Office_card 51 = .ok (.istore 7, 2) ∧ decode b_Office_card 53 = .ok (.iload 7, 2) ∧ decode b_Office_card 55 = .ok (.bipush 16, 2) ∧ decode b_Office_card 57 = .ok (.if_icmp .ge 24, 3) ∧ decode b_Office_card 60 = .ok (.aload 6, 2) ∧ decode b_Office_card 62 = .ok (.getfield 77, 3) ∧ decode b_Office_card 65 = .ok (.iload 7, 2) ∧ decode b_Office_card 67 = .ok (.aload_n 0, 1) ∧ decode b_Office_card 68 = .ok (.getfield 21, 3) ∧ decode b_Office_card 71 = .ok (.iload 7, 2) ∧ decode b_Office_card 73 = .ok (.iaload, 1) ∧ decode b_Office_card 74 = .ok (.iastore, 1) ∧ decode b_Office_card 75 = .ok (.iinc 7 1, 3) ∧ decode b_Office_card 78 = .ok (.goto (-25), 3) ∧ decode b_Office_card 81 = .ok (.aload_n 0, 1) ∧ decode b_Office_card 82 = .ok (.getfield 11, 3) ∧ decode b_Office_card 85 = .ok (.iload_n 1, 1) ∧ decode b_Office_card 86 = .ok (.aaload, 1) ∧ decode b_Office_card 87 = .ok (.aload 6, 2) ∧ decode b_Office_card 89 = .ok (.invokevirtual 80, 3) ∧ decode b_Office_card 92 = .ok (.iconst 1, 1) ∧ decode b_Office_card 93 = .ok (.ireturn, 1) := ⟨by decide +kernel, by decide +kernel, by decide +kernel, by decide +kernel, by decide +kernel, by decide +kernel, by decide +kernel, by decide +kernel, by decide +kernel, by decide +kernel, by decide +kernel, by decide +kernel, by decide +kernel, by decide +kernel, by decide +kernel, by decide +kernel, by decide +kernel, by decide +kernel, by decide +kernel, by decide +kernel, by decide +kernel, by decide +kernel, by decide +kernel, by decide +kernel, by decide +kernel, by decide +kernel, by decide +kernel, by decide +kernel, by decide +kernel, by decide +kernel, by decide +kernel, by decide +kernel, by decide +kernel, by decide +kernel, by decide +kernel, by decide +kernel, by decide +kernel, by decide +kernel, by decide +kernel, by decide +kernel, by decide +kernel, by decide +kernel, by decide +kernel, by decide +kernel, by decide +kernel, by decide +kernel, by decide +kernel, by decide +kernel⟩
theorem v_Office_card : Cond.instanceMethod y_Office_card ∈ nm_Ts ∧ Cond.selects y_Office_card.cls y_Office_card y_Office_card ∈ nm_Ts ∧ Cond.initialized y_Office_card.cls ∈ nm_Ts ∧ Cond.code y_Office_card b_Office_card 8 (some .boolean) ∈ nm_Ts ∧ mz_cl1 y_Office_card 3 := ⟨nm_t1 231 rfl rfl, nm_t1 232 rfl rfl, nm_t1 1 rfl rfl, nm_t1 233 rfl rfl, by decide +kernel⟩
def y_Office_isDeck : MethodName := ⟨"CardOffice", "isDeck", "(I)Z"⟩
abbrev b_Office_isDeck : ByteArray := prog_1_method_21_code
def r_Office_isDeck (c s : Nat) : Room := { frames := 0, cells := c, slots := s, locals := 0 }
theorem d_Office_isDeck : decode b_Office_isDeck 0 = .ok (.iload_n 0, 1) ∧ decode b_Office_isDeck 1 = .ok (.ifCond .lt 13, 3) ∧ decode b_Office_isDeck 4 = .ok (.iload_n 0, 1) ∧ decode b_Office_isDeck 5 = .ok (.bipush 8, 2) ∧ decode b_Office_isDeck 7 = .ok (.if_icmp .ge 7, 3) ∧ decode b_Office_isDeck 10 = .ok (.iconst 1, 1) ∧ decode b_Office_isDeck 11 = .ok (.goto 4, 3) ∧ decode b_Office_isDeck 14 = .ok (.iconst 0, 1) ∧ decode b_Office_isDeck 15 = .ok (.ireturn, 1) := ⟨by decide +kernel, by decide +kernel, by decide +kernel, by decide +kernel, by decide +kernel, by decide +kernel, by decide +kernel, by decide +kernel, by decide +kernel⟩
theorem s_Office_isDeck : Cond.static y_Office_isDeck ∈ nm_Ts ∧ Cond.initialized y_Office_isDeck.cls ∈ nm_Ts ∧ Cond.code y_Office_isDeck b_Office_isDeck 1 (some .boolean) ∈ nm_Ts ∧ mz_cl1 y_Office_isDeck 1 := ⟨nm_t1 235 rfl rfl, nm_t1 1 rfl rfl, nm_t1 236 rfl rfl, by decide +kernel⟩
def y_Office_cardsInAll : MethodName := ⟨"CardOffice", "cardsInAll", "()I"⟩
abbrev b_Office_cardsInAll : ByteArray := prog_1_method_34_code
def r_Office_cardsInAll (c s : Nat) : Room := { frames := 0, cells := c, slots := s, locals := 0 }
theorem d_Office_cardsInAll : decode b_Office_cardsInAll 0 = .ok (.iconst 0, 1) ∧ decode b_Office_cardsInAll 1 = .ok (.istore_n 1, 1) ∧ decode b_Office_cardsInAll 2 = .ok (.iconst 0, 1) ∧ decode b_Office_cardsInAll 3 = .ok (.istore_n 2, 1) ∧ decode b_Office_cardsInAll 4 = .ok (.iload_n 2, 1) ∧ decode b_Office_cardsInAll 5 = .ok (.bipush 8, 2) ∧ decode b_Office_cardsInAll 7 = .ok (.if_icmp .ge 21, 3) ∧ decode b_Office_cardsInAll 10 = .ok (.iload_n 1, 1) ∧ decode b_Office_cardsInAll 11 = .ok (.aload_n 0, 1) ∧ decode b_Office_cardsInAll 12 = .ok (.getfield 11, 3) ∧ decode b_Office_cardsInAll 15 = .ok (.iload_n 2, 1) ∧ decode b_Office_cardsInAll 16 = .ok (.aaload, 1) ∧ decode b_Office_cardsInAll 17 = .ok (.getfield 183, 3) ∧ decode b_Office_cardsInAll 20 = .ok (.iadd, 1) ∧ decode b_Office_cardsInAll 21 = .ok (.istore_n 1, 1) ∧ decode b_Office_cardsInAll 22 = .ok (.iinc 2 1, 3) ∧ decode b_Office_cardsInAll 25 = .ok (.goto (-21), 3) ∧ decode b_Office_cardsInAll 28 = .ok (.iload_n 1, 1) ∧ decode b_Office_cardsInAll 29 = .ok (.ireturn, 1) := ⟨by decide +kernel, by decide +kernel, by decide +kernel, by decide +kernel, by decide +kernel, by decide +kernel, by decide +kernel, by decide +kernel, by decide +kernel, by decide +kernel, by decide +kernel, by decide +kernel, by decide +kernel, by decide +kernel, by decide +kernel, by decide +kernel, by decide +kernel, by decide +kernel, by decide +kernel⟩
theorem v_Office_cardsInAll : Cond.instanceMethod y_Office_cardsInAll ∈ nm_Ts ∧ Cond.selects y_Office_cardsInAll.cls y_Office_cardsInAll y_Office_cardsInAll ∈ nm_Ts ∧ Cond.initialized y_Office_cardsInAll.cls ∈ nm_Ts ∧ Cond.code y_Office_cardsInAll b_Office_cardsInAll 3 (some .int) ∈ nm_Ts ∧ mz_cl1 y_Office_cardsInAll 0 := ⟨nm_t1 239 rfl rfl, nm_s 0 rfl rfl, nm_t1 1 rfl rfl, nm_t2 0 rfl rfl, by decide +kernel⟩
def y_Office_readColumns : MethodName := ⟨"CardOffice", "readColumns", "(JI)Z"⟩
abbrev b_Office_readColumns : ByteArray := prog_1_method_35_code
def r_Office_readColumns (c s : Nat) : Room := { frames := 1, cells := c, slots := s, locals := 20 }
theorem d_Office_readColumns : decode b_Office_readColumns 0 = .ok (.iconst 0, 1) ∧ decode b_Office_readColumns 1 = .ok (.istore 4, 2) ∧ decode b_Office_readColumns 3 = .ok (.iload 4, 2) ∧ decode b_Office_readColumns 5 = .ok (.bipush 8, 2) ∧ decode b_Office_readColumns 7 = .ok (.if_icmp .ge 47, 3) ∧ decode b_Office_readColumns 10 = .ok (.lload_n 1, 1) ∧ decode b_Office_readColumns 11 = .ok (.bipush 56, 2) ∧ decode b_Office_readColumns 13 = .ok (.bipush 8, 2) ∧ decode b_Office_readColumns 15 = .ok (.iload 4, 2) ∧ decode b_Office_readColumns 17 = .ok (.imul, 1) ∧ decode b_Office_readColumns 18 = .ok (.isub, 1) ∧ decode b_Office_readColumns 19 = .ok (.lushr, 1) ∧ decode b_Office_readColumns 20 = .ok (.l2i, 1) ∧ decode b_Office_readColumns 21 = .ok (.sipush 255, 3) ∧ decode b_Office_readColumns 24 = .ok (.iand, 1) ∧ decode b_Office_readColumns 25 = .ok (.istore 5, 2) ∧ decode b_Office_readColumns 27 = .ok (.iload 5, 2) ∧ decode b_Office_readColumns 29 = .ok (.invokestatic 244, 3) ∧ decode b_Office_readColumns 32 = .ok (.ifCond .ne 5, 3) ∧ decode b_Office_readColumns 35 = .ok (.iconst 0, 1) ∧ decode b_Office_readColumns 36 = .ok (.ireturn, 1) ∧ decode b_Office_readColumns 37 = .ok (.aload_n 0, 1) ∧ decode b_Office_readColumns 38 = .ok (.getfield 21, 3) ∧ decode b_Office_readColumns 41 = .ok (.iload_n 3, 1) ∧ decode b_Office_readColumns 42 = .ok (.iload 4, 2) ∧ decode b_Office_readColumns 44 = .ok (.iadd, 1) ∧ decode b_Office_readColumns 45 = .ok (.iload 5, 2) ∧ decode b_Office_readColumns 47 = .ok (.iastore, 1) ∧ decode b_Office_readColumns 48 = .ok (.iinc 4 1, 3) ∧ decode b_Office_readColumns 51 = .ok (.goto (-48), 3) ∧ decode b_Office_readColumns 54 = .ok (.iconst 1, 1) ∧ decode b_Office_readColumns 55 = .ok (.ireturn, 1) := ⟨by decide +kernel, by decide +kernel, by decide +kernel, by decide +kernel, by decide +kernel, by decide +kernel, by decide +kernel, by decide +kernel, by decide +kernel, by decide +kernel, by decide +kernel, by decide +kernel, by decide +kernel, by decide +kernel, by decide +kernel, by decide +kernel, by decide +kernel, by decide +kernel, by decide +kernel, by decide +kernel, by decide +kernel, by decide +kernel, by decide +kernel, by decide +kernel, by decide +kernel, by decide +kernel, by decide +kernel, by decide +kernel, by decide +kernel, by decide +kernel, by decide +kernel, by decide +kernel⟩
theorem v_Office_readColumns : Cond.instanceMethod y_Office_readColumns ∈ nm_Ts ∧ Cond.selects y_Office_readColumns.cls y_Office_readColumns y_Office_readColumns ∈ nm_Ts ∧ Cond.initialized y_Office_readColumns.cls ∈ nm_Ts ∧ Cond.code y_Office_readColumns b_Office_readColumns 6 (some .boolean) ∈ nm_Ts ∧ mz_cl1 y_Office_readColumns 2 := ⟨nm_t2 3 rfl rfl, nm_s 1 rfl rfl, nm_t1 1 rfl rfl, nm_t2 4 rfl rfl, by decide +kernel⟩
def y_Office_isSign : MethodName := ⟨"CardOffice", "isSign", "(I)Z"⟩
abbrev b_Office_isSign : ByteArray := prog_1_method_36_code
def r_Office_isSign (c s : Nat) : Room := { frames := 0, cells := c, slots := s, locals := 0 }
theorem d_Office_isSign : decode b_Office_isSign 0 = .ok (.iload_n 0, 1) ∧ decode b_Office_isSign 1 = .ok (.bipush 32, 2) ∧ decode b_Office_isSign 3 = .ok (.if_icmp .eq 27, 3) ∧ decode b_Office_isSign 6 = .ok (.iload_n 0, 1) ∧ decode b_Office_isSign 7 = .ok (.bipush 48, 2) ∧ decode b_Office_isSign 9 = .ok (.if_icmp .lt 9, 3) ∧ decode b_Office_isSign 12 = .ok (.iload_n 0, 1) ∧ decode b_Office_isSign 13 = .ok (.bipush 57, 2) ∧ decode b_Office_isSign 15 = .ok (.if_icmp .le 15, 3) ∧ decode b_Office_isSign 18 = .ok (.iload_n 0, 1) ∧ decode b_Office_isSign 19 = .ok (.bipush 65, 2) ∧ decode b_Office_isSign 21 = .ok (.if_icmp .lt 13, 3) ∧ decode b_Office_isSign 24 = .ok (.iload_n 0, 1) ∧ decode b_Office_isSign 25 = .ok (.bipush 90, 2) ∧ decode b_Office_isSign 27 = .ok (.if_icmp .gt 7, 3) ∧ decode b_Office_isSign 30 = .ok (.iconst 1, 1) ∧ decode b_Office_isSign 31 = .ok (.goto 4, 3) ∧ decode b_Office_isSign 34 = .ok (.iconst 0, 1) ∧ decode b_Office_isSign 35 = .ok (.ireturn, 1) := ⟨by decide +kernel, by decide +kernel, by decide +kernel, by decide +kernel, by decide +kernel, by decide +kernel, by decide +kernel, by decide +kernel, by decide +kernel, by decide +kernel, by decide +kernel, by decide +kernel, by decide +kernel, by decide +kernel, by decide +kernel, by decide +kernel, by decide +kernel, by decide +kernel, by decide +kernel⟩
theorem s_Office_isSign : Cond.static y_Office_isSign ∈ nm_Ts ∧ Cond.initialized y_Office_isSign.cls ∈ nm_Ts ∧ Cond.code y_Office_isSign b_Office_isSign 1 (some .boolean) ∈ nm_Ts ∧ mz_cl1 y_Office_isSign 1 := ⟨nm_t2 6 rfl rfl, nm_t1 1 rfl rfl, nm_t2 7 rfl rfl, by decide +kernel⟩
def y_Card_init : MethodName := ⟨"CardOffice$Card", "<init>", "()V"⟩
abbrev b_Card_init : ByteArray := prog_3_method_1_code
def r_Card_init (c s : Nat) : Room := { frames := 1, cells := c, slots := s, locals := 14 }
theorem d_Card_init : decode b_Card_init 0 = .ok (.aload_n 0, 1) ∧ decode b_Card_init 1 = .ok (.invokespecial 3, 3) ∧ decode b_Card_init 4 = .ok (.aload_n 0, 1) ∧ decode b_Card_init 5 = .ok (.bipush 16, 2) ∧ decode b_Card_init 7 = .ok (.newarray .int, 2) ∧ decode b_Card_init 9 = .ok (.putfield 9, 3) ∧ decode b_Card_init 12 = .ok (.return_, 1) := ⟨by decide +kernel, by decide +kernel, by decide +kernel, by decide +kernel, by decide +kernel, by decide +kernel, by decide +kernel⟩
theorem i_Card_init : Cond.instanceMethod y_Card_init ∈ nm_Ts ∧ y_Card_init.name = "<init>" ∧ Cond.initialized y_Card_init.cls ∈ nm_Ts ∧ Cond.code y_Card_init b_Card_init 1 none ∈ nm_Ts ∧ mz_cl1 y_Card_init 0 := ⟨nm_t2 11 rfl rfl, rfl, nm_t1 13 rfl rfl, nm_t2 12 rfl rfl, by decide +kernel⟩
def y_Deck_add : MethodName := ⟨"CardOffice$Deck", "add", "(LCardOffice$Card;)V"⟩
abbrev b_Deck_add : ByteArray := prog_5_method_3_code
def r_Deck_add (c s : Nat) : Room := { frames := 0, cells := c, slots := s, locals := 0 }
theorem d_Deck_add : decode b_Deck_add 0 = .ok (.aload_n 0, 1) ∧ decode b_Deck_add 1 = .ok (.getfield 11, 3) ∧ decode b_Deck_add 4 = .ok (.aload_n 0, 1) ∧ decode b_Deck_add 5 = .ok (.getfield 17, 3) ∧ decode b_Deck_add 8 = .ok (.aload_n 1, 1) ∧ decode b_Deck_add 9 = .ok (.aastore, 1) ∧ decode b_Deck_add 10 = .ok (.aload_n 0, 1) ∧ decode b_Deck_add 11 = .ok (.dup, 1) ∧ decode b_Deck_add 12 = .ok (.getfield 17, 3) ∧ decode b_Deck_add 15 = .ok (.iconst 1, 1) ∧ decode b_Deck_add 16 = .ok (.iadd, 1) ∧ decode b_Deck_add 17 = .ok (.putfield 17, 3) ∧ decode b_Deck_add 20 = .ok (.return_, 1) := ⟨by decide +kernel, by decide +kernel, by decide +kernel, by decide +kernel, by decide +kernel, by decide +kernel, by decide +kernel, by decide +kernel, by decide +kernel, by decide +kernel, by decide +kernel, by decide +kernel, by decide +kernel⟩
theorem v_Deck_add : Cond.instanceMethod y_Deck_add ∈ nm_Ts ∧ Cond.selects y_Deck_add.cls y_Deck_add y_Deck_add ∈ nm_Ts ∧ Cond.initialized y_Deck_add.cls ∈ nm_Ts ∧ Cond.code y_Deck_add b_Deck_add 2 none ∈ nm_Ts ∧ mz_cl1 y_Deck_add 1 := ⟨nm_t2 25 rfl rfl, nm_t2 26 rfl rfl, nm_t1 5 rfl rfl, nm_t2 27 rfl rfl, by decide +kernel⟩
def y_Office_wire : MethodName := ⟨"CardOffice", "wire", "(III)Z"⟩
abbrev b_Office_wire : ByteArray := prog_1_method_3_code
def r_Office_wire (c s : Nat) : Room := { frames := 2, cells := c, slots := s, locals := 45 }
theorem d_Office_wire : decode b_Office_wire 0 = .ok (.iload_n 1, 1) ∧ decode b_Office_wire 1 = .ok (.invokestatic 84, 3) ∧ decode b_Office_wire 4 = .ok (.ifCond .eq 17, 3) ∧ decode b_Office_wire 7 = .ok (.iload_n 2, 1) ∧ decode b_Office_wire 8 = .ok (.invokestatic 87, 3) ∧ decode b_Office_wire 11 = .ok (.ifCond .eq 10, 3) ∧ decode b_Office_wire 14 = .ok (.iload_n 3, 1) ∧ decode b_Office_wire 15 = .ok (.invokestatic 90, 3) ∧ decode b_Office_wire 18 = .ok (.ifCond .ne 5, 3) ∧ decode b_Office_wire 21 = .ok (.iconst 0, 1) ∧ decode b_Office_wire 22 = .ok (.ireturn, 1) ∧ decode b_Office_wire 23 = .ok (.aload_n 0, 1) ∧ decode b_Office_wire 24 = .ok (.getfield 17, 3) ∧ decode b_Office_wire 27 = .ok (.iload_n 1, 1) ∧ decode b_Office_wire 28 = .ok (.aaload, 1) ∧ decode b_Office_wire 29 = .ok (.iload_n 2, 1) ∧ decode b_Office_wire 30 = .ok (.iload_n 3, 1) ∧ decode b_Office_wire 31 = .ok (.invokevirtual 93, 3) ∧ decode b_Office_wire 34 = .ok (.ireturn, 1) := ⟨by decide +kernel, by decide +kernel, by decide +kernel, by decide +kernel, by decide +kernel, by decide +kernel, by decide +kernel, by decide +kernel, by decide +kernel, by decide +kernel, by decide +kernel, by decide +kernel, by decide +kernel, by decide +kernel, by decide +kernel, by decide +kernel, by decide +kernel, by decide +kernel, by decide +kernel⟩
theorem v_Office_wire : Cond.instanceMethod y_Office_wire ∈ nm_Ts ∧ Cond.selects y_Office_wire.cls y_Office_wire y_Office_wire ∈ nm_Ts ∧ Cond.initialized y_Office_wire.cls ∈ nm_Ts ∧ Cond.code y_Office_wire b_Office_wire 4 (some .boolean) ∈ nm_Ts ∧ mz_cl1 y_Office_wire 3 := ⟨nm_t2 29 rfl rfl, nm_t2 30 rfl rfl, nm_t1 1 rfl rfl, nm_t2 31 rfl rfl, by decide +kernel⟩
def y_Office_isBoard : MethodName := ⟨"CardOffice", "isBoard", "(I)Z"⟩
abbrev b_Office_isBoard : ByteArray := prog_1_method_23_code
def r_Office_isBoard (c s : Nat) : Room := { frames := 0, cells := c, slots := s, locals := 0 }
theorem d_Office_isBoard : decode b_Office_isBoard 0 = .ok (.iload_n 0, 1) ∧ decode b_Office_isBoard 1 = .ok (.ifCond .lt 12, 3) ∧ decode b_Office_isBoard 4 = .ok (.iload_n 0, 1) ∧ decode b_Office_isBoard 5 = .ok (.iconst 4, 1) ∧ decode b_Office_isBoard 6 = .ok (.if_icmp .ge 7, 3) ∧ decode b_Office_isBoard 9 = .ok (.iconst 1, 1) ∧ decode b_Office_isBoard 10 = .ok (.goto 4, 3) ∧ decode b_Office_isBoard 13 = .ok (.iconst 0, 1) ∧ decode b_Office_isBoard 14 = .ok (.ireturn, 1) := ⟨by decide +kernel, by decide +kernel, by decide +kernel, by decide +kernel, by decide +kernel, by decide +kernel, by decide +kernel, by decide +kernel, by decide +kernel⟩
theorem s_Office_isBoard : Cond.static y_Office_isBoard ∈ nm_Ts ∧ Cond.initialized y_Office_isBoard.cls ∈ nm_Ts ∧ Cond.code y_Office_isBoard b_Office_isBoard 1 (some .boolean) ∈ nm_Ts ∧ mz_cl1 y_Office_isBoard 1 := ⟨nm_t2 33 rfl rfl, nm_t1 1 rfl rfl, nm_t2 34 rfl rfl, by decide +kernel⟩
def y_Office_isFromJack : MethodName := ⟨"CardOffice", "isFromJack", "(I)Z"⟩
abbrev b_Office_isFromJack : ByteArray := prog_1_method_27_code
def r_Office_isFromJack (c s : Nat) : Room := { frames := 0, cells := c, slots := s, locals := 0 }
theorem d_Office_isFromJack : decode b_Office_isFromJack 0 = .ok (.iload_n 0, 1) ∧ decode b_Office_isFromJack 1 = .ok (.ifCond .lt 9, 3) ∧ decode b_Office_isFromJack 4 = .ok (.iload_n 0, 1) ∧ decode b_Office_isFromJack 5 = .ok (.bipush 26, 2) ∧ decode b_Office_isFromJack 7 = .ok (.if_icmp .lt 15, 3) ∧ decode b_Office_isFromJack 10 = .ok (.iload_n 0, 1) ∧ decode b_Office_isFromJack 11 = .ok (.bipush 32, 2) ∧ decode b_Office_isFromJack 13 = .ok (.if_icmp .lt 13, 3) ∧ decode b_Office_isFromJack 16 = .ok (.iload_n 0, 1) ∧ decode b_Office_isFromJack 17 = .ok (.bipush 56, 2) ∧ decode b_Office_isFromJack 19 = .ok (.if_icmp .ge 7, 3) ∧ decode b_Office_isFromJack 22 = .ok (.iconst 1, 1) ∧ decode b_Office_isFromJack 23 = .ok (.goto 4, 3) ∧ decode b_Office_isFromJack 26 = .ok (.iconst 0, 1) ∧ decode b_Office_isFromJack 27 = .ok (.ireturn, 1) := ⟨by decide +kernel, by decide +kernel, by decide +kernel, by decide +kernel, by decide +kernel, by decide +kernel, by decide +kernel, by decide +kernel, by decide +kernel, by decide +kernel, by decide +kernel, by decide +kernel, by decide +kernel, by decide +kernel, by decide +kernel⟩
theorem s_Office_isFromJack : Cond.static y_Office_isFromJack ∈ nm_Ts ∧ Cond.initialized y_Office_isFromJack.cls ∈ nm_Ts ∧ Cond.code y_Office_isFromJack b_Office_isFromJack 1 (some .boolean) ∈ nm_Ts ∧ mz_cl1 y_Office_isFromJack 1 := ⟨nm_t2 36 rfl rfl, nm_t1 1 rfl rfl, nm_t2 37 rfl rfl, by decide +kernel⟩
def y_Office_isToJack : MethodName := ⟨"CardOffice", "isToJack", "(I)Z"⟩
abbrev b_Office_isToJack : ByteArray := prog_1_method_28_code
def r_Office_isToJack (c s : Nat) : Room := { frames := 1, cells := c, slots := s, locals := 20 }
theorem d_Office_isToJack : decode b_Office_isToJack 0 = .ok (.iload_n 0, 1) ∧ decode b_Office_isToJack 1 = .ok (.invokestatic 106, 3) ∧ decode b_Office_isToJack 4 = .ok (.ifCond .ne 39, 3) ∧ decode b_Office_isToJack 7 = .ok (.iload_n 0, 1) ∧ decode b_Office_isToJack 8 = .ok (.bipush 32, 2) ∧ decode b_Office_isToJack 10 = .ok (.if_icmp .lt 9, 3) ∧ decode b_Office_isToJack 13 = .ok (.iload_n 0, 1) ∧ decode b_Office_isToJack 14 = .ok (.bipush 56, 2) ∧ decode b_Office_isToJack 16 = .ok (.if_icmp .lt 27, 3) ∧ decode b_Office_isToJack 19 = .ok (.iload_n 0, 1) ∧ decode b_Office_isToJack 20 = .ok (.bipush 64, 2) ∧ decode b_Office_isToJack 22 = .ok (.if_icmp .lt 9, 3) ∧ decode b_Office_isToJack 25 = .ok (.iload_n 0, 1) ∧ decode b_Office_isToJack 26 = .ok (.bipush 88, 2) ∧ decode b_Office_isToJack 28 = .ok (.if_icmp .lt 15, 3) ∧ decode b_Office_isToJack 31 = .ok (.iload_n 0, 1) ∧ decode b_Office_isToJack 32 = .ok (.bipush 96, 2) ∧ decode b_Office_isToJack 34 = .ok (.if_icmp .lt 13, 3) ∧ decode b_Office_isToJack 37 = .ok (.iload_n 0, 1) ∧ decode b_Office_isToJack 38 = .ok (.bipush 99, 2) ∧ decode b_Office_isToJack 40 = .ok (.if_icmp .gt 7, 3) ∧ decode b_Office_isToJack 43 = .ok (.iconst 1, 1) ∧ decode b_Office_isToJack 44 = .ok (.goto 4, 3) ∧ decode b_Office_isToJack 47 = .ok (.iconst 0, 1) ∧ decode b_Office_isToJack 48 = .ok (.ireturn, 1) := ⟨by decide +kernel, by decide +kernel, by decide +kernel, by decide +kernel, by decide +kernel, by decide +kernel, by decide +kernel, by decide +kernel, by decide +kernel, by decide +kernel, by decide +kernel, by decide +kernel, by decide +kernel, by decide +kernel, by decide +kernel, by decide +kernel, by decide +kernel, by decide +kernel, by decide +kernel, by decide +kernel, by decide +kernel, by decide +kernel, by decide +kernel, by decide +kernel, by decide +kernel⟩
theorem s_Office_isToJack : Cond.static y_Office_isToJack ∈ nm_Ts ∧ Cond.initialized y_Office_isToJack.cls ∈ nm_Ts ∧ Cond.code y_Office_isToJack b_Office_isToJack 1 (some .boolean) ∈ nm_Ts ∧ mz_cl1 y_Office_isToJack 1 := ⟨nm_t2 39 rfl rfl, nm_t1 1 rfl rfl, nm_t2 40 rfl rfl, by decide +kernel⟩
def y_Office_isColumn : MethodName := ⟨"CardOffice", "isColumn", "(I)Z"⟩
abbrev b_Office_isColumn : ByteArray := prog_1_method_25_code
def r_Office_isColumn (c s : Nat) : Room := { frames := 0, cells := c, slots := s, locals := 0 }
theorem d_Office_isColumn : decode b_Office_isColumn 0 = .ok (.iload_n 0, 1) ∧ decode b_Office_isColumn 1 = .ok (.ifCond .lt 13, 3) ∧ decode b_Office_isColumn 4 = .ok (.iload_n 0, 1) ∧ decode b_Office_isColumn 5 = .ok (.bipush 16, 2) ∧ decode b_Office_isColumn 7 = .ok (.if_icmp .ge 7, 3) ∧ decode b_Office_isColumn 10 = .ok (.iconst 1, 1) ∧ decode b_Office_isColumn 11 = .ok (.goto 4, 3) ∧ decode b_Office_isColumn 14 = .ok (.iconst 0, 1) ∧ decode b_Office_isColumn 15 = .ok (.ireturn, 1) := ⟨by decide +kernel, by decide +kernel, by decide +kernel, by decide +kernel, by decide +kernel, by decide +kernel, by decide +kernel, by decide +kernel, by decide +kernel⟩
theorem s_Office_isColumn : Cond.static y_Office_isColumn ∈ nm_Ts ∧ Cond.initialized y_Office_isColumn.cls ∈ nm_Ts ∧ Cond.code y_Office_isColumn b_Office_isColumn 1 (some .boolean) ∈ nm_Ts ∧ mz_cl1 y_Office_isColumn 1 := ⟨nm_t2 42 rfl rfl, nm_t1 1 rfl rfl, nm_t2 43 rfl rfl, by decide +kernel⟩
def y_Board_addWire : MethodName := ⟨"CardOffice$Board", "addWire", "(II)Z"⟩
abbrev b_Board_addWire : ByteArray := prog_2_method_2_code
def r_Board_addWire (c s : Nat) : Room := { frames := 1, cells := c, slots := s, locals := 23 }
theorem d_Board_addWire : decode b_Board_addWire 0 = .ok (.aload_n 0, 1) ∧ decode b_Board_addWire 1 = .ok (.getfield 27, 3) ∧ decode b_Board_addWire 4 = .ok (.bipush 40, 2) ∧ decode b_Board_addWire 6 = .ok (.if_icmp .ge 12, 3) ∧ decode b_Board_addWire 9 = .ok (.aload_n 0, 1) ∧ decode b_Board_addWire 10 = .ok (.iload_n 1, 1) ∧ decode b_Board_addWire 11 = .ok (.iload_n 2, 1) ∧ decode b_Board_addWire 12 = .ok (.invokevirtual 31, 3) ∧ decode b_Board_addWire 15 = .ok (.ifCond .eq 5, 3) ∧ decode b_Board_addWire 18 = .ok (.iconst 0, 1) ∧ decode b_Board_addWire 19 = .ok (.ireturn, 1) ∧ decode b_Board_addWire 20 = .ok (.aload_n 0, 1) ∧ decode b_Board_addWire 21 = .ok (.getfield 9, 3) ∧ decode b_Board_addWire 24 = .ok (.aload_n 0, 1) ∧ decode b_Board_addWire 25 = .ok (.getfield 27, 3) ∧ decode b_Board_addWire 28 = .ok (.iload_n 1, 1) ∧ decode b_Board_addWire 29 = .ok (.iastore, 1) ∧ decode b_Board_addWire 30 = .ok (.aload_n 0, 1) ∧ decode b_Board_addWire 31 = .ok (.getfield 15, 3) ∧ decode b_Board_addWire 34 = .ok (.aload_n 0, 1) ∧ decode b_Board_addWire 35 = .ok (.getfield 27, 3) ∧ decode b_Board_addWire 38 = .ok (.iload_n 2, 1) ∧ decode b_Board_addWire 39 = .ok (.iastore, 1) ∧ decode b_Board_addWire 40 = .ok (.aload_n 0, 1) ∧ decode b_Board_addWire 41 = .ok (.dup, 1) ∧ decode b_Board_addWire 42 = .ok (.getfield 27, 3) ∧ decode b_Board_addWire 45 = .ok (.iconst 1, 1) ∧ decode b_Board_addWire 46 = .ok (.iadd, 1) ∧ decode b_Board_addWire 47 = .ok (.putfield 27, 3) ∧ decode b_Board_addWire 50 = .ok (.iconst 1, 1) ∧ decode b_Board_addWire 51 = .ok (.ireturn, 1) := ⟨by decide +kernel, by decide +kernel, by decide +kernel, by decide +kernel, by decide +kernel, by decide +kernel, by decide +kernel, by decide +kernel, by decide +kernel, by decide +kernel, by decide +kernel, by decide +kernel, by decide +kernel, by decide +kernel, by decide +kernel, by decide +kernel, by decide +kernel, by decide +kernel, by decide +kernel, by decide +kernel, by decide +kernel, by decide +kernel, by decide +kernel, by decide +kernel, by decide +kernel, by decide +kernel, by decide +kernel, by decide +kernel, by decide +kernel, by decide +kernel, by decide +kernel⟩
theorem v_Board_addWire : Cond.instanceMethod y_Board_addWire ∈ nm_Ts ∧ Cond.selects y_Board_addWire.cls y_Board_addWire y_Board_addWire ∈ nm_Ts ∧ Cond.initialized y_Board_addWire.cls ∈ nm_Ts ∧ Cond.code y_Board_addWire b_Board_addWire 3 (some .boolean) ∈ nm_Ts ∧ mz_cl1 y_Board_addWire 2 := ⟨nm_t2 45 rfl rfl, nm_t2 46 rfl rfl, nm_t1 10 rfl rfl, nm_t2 47 rfl rfl, by decide +kernel⟩
def y_Board_hasWire : MethodName := ⟨"CardOffice$Board", "hasWire", "(II)Z"⟩
abbrev b_Board_hasWire : ByteArray := prog_2_method_4_code
def r_Board_hasWire (c s : Nat) : Room := { frames := 0, cells := c, slots := s, locals := 0 }
theorem d_Board_hasWire : decode b_Board_hasWire 0 = .ok (.iconst 0, 1) ∧ decode b_Board_hasWire 1 = .ok (.istore_n 3, 1) ∧ decode b_Board_hasWire 2 = .ok (.iload_n 3, 1) ∧ decode b_Board_hasWire 3 = .ok (.aload_n 0, 1) ∧ decode b_Board_hasWire 4 = .ok (.getfield 27, 3) ∧ decode b_Board_hasWire 7 = .ok (.if_icmp .ge 31, 3) ∧ decode b_Board_hasWire 10 = .ok (.aload_n 0, 1) ∧ decode b_Board_hasWire 11 = .ok (.getfield 9, 3) ∧ decode b_Board_hasWire 14 = .ok (.iload_n 3, 1) ∧ decode b_Board_hasWire 15 = .ok (.iaload, 1) ∧ decode b_Board_hasWire 16 = .ok (.iload_n 1, 1) ∧ decode b_Board_hasWire 17 = .ok (.if_icmp .ne 15, 3) ∧ decode b_Board_hasWire 20 = .ok (.aload_n 0, 1) ∧ decode b_Board_hasWire 21 = .ok (.getfield 15, 3) ∧ decode b_Board_hasWire 24 = .ok (.iload_n 3, 1) ∧ decode b_Board_hasWire 25 = .ok (.iaload, 1) ∧ decode b_Board_hasWire 26 = .ok (.iload_n 2, 1) ∧ decode b_Board_hasWire 27 = .ok (.if_icmp .ne 5, 3) ∧ decode b_Board_hasWire 30 = .ok (.iconst 1, 1) ∧ decode b_Board_hasWire 31 = .ok (.ireturn, 1) ∧ decode b_Board_hasWire 32 = .ok (.iinc 3 1, 3) ∧ decode b_Board_hasWire 35 = .ok (.goto (-33), 3) ∧ decode b_Board_hasWire 38 = .ok (.iconst 0, 1) ∧ decode b_Board_hasWire 39 = .ok (.ireturn, 1) := ⟨by decide +kernel, by decide +kernel, by decide +kernel, by decide +kernel, by decide +kernel, by decide +kernel, by decide +kernel, by decide +kernel, by decide +kernel, by decide +kernel, by decide +kernel, by decide +kernel, by decide +kernel, by decide +kernel, by decide +kernel, by decide +kernel, by decide +kernel, by decide +kernel, by decide +kernel, by decide +kernel, by decide +kernel, by decide +kernel, by decide +kernel, by decide +kernel⟩
theorem v_Board_hasWire : Cond.instanceMethod y_Board_hasWire ∈ nm_Ts ∧ Cond.selects y_Board_hasWire.cls y_Board_hasWire y_Board_hasWire ∈ nm_Ts ∧ Cond.initialized y_Board_hasWire.cls ∈ nm_Ts ∧ Cond.code y_Board_hasWire b_Board_hasWire 4 (some .boolean) ∈ nm_Ts ∧ mz_cl1 y_Board_hasWire 2 := ⟨nm_t2 50 rfl rfl, nm_s 2 rfl rfl, nm_t1 10 rfl rfl, nm_t2 51 rfl rfl, by decide +kernel⟩
def y_Office_strip : MethodName := ⟨"CardOffice", "strip", "(I)I"⟩
abbrev b_Office_strip : ByteArray := prog_1_method_4_code
def r_Office_strip (c s : Nat) : Room := { frames := 2, cells := c, slots := s, locals := 44 }
theorem d_Office_strip : decode b_Office_strip 0 = .ok (.iload_n 1, 1) ∧ decode b_Office_strip 1 = .ok (.invokestatic 84, 3) ∧ decode b_Office_strip 4 = .ok (.ifCond .ne 5, 3) ∧ decode b_Office_strip 7 = .ok (.iconst (-1), 1) ∧ decode b_Office_strip 8 = .ok (.ireturn, 1) ∧ decode b_Office_strip 9 = .ok (.aload_n 0, 1) ∧ decode b_Office_strip 10 = .ok (.getfield 17, 3) ∧ decode b_Office_strip 13 = .ok (.iload_n 1, 1) ∧ decode b_Office_strip 14 = .ok (.aaload, 1) ∧ decode b_Office_strip 15 = .ok (.invokevirtual 97, 3) ∧ decode b_Office_strip 18 = .ok (.ireturn, 1) := ⟨by decide +kernel, by decide +kernel, by decide +kernel, by decide +kernel, by decide +kernel, by decide +kernel, by decide +kernel, by decide +kernel, by decide +kernel, by decide +kernel, by decide +kernel⟩
theorem v_Office_strip : Cond.instanceMethod y_Office_strip ∈ nm_Ts ∧ Cond.selects y_Office_strip.cls y_Office_strip y_Office_strip ∈ nm_Ts ∧ Cond.initialized y_Office_strip.cls ∈ nm_Ts ∧ Cond.code y_Office_strip b_Office_strip 2 (some .int) ∈ nm_Ts ∧ mz_cl1 y_Office_strip 1 := ⟨nm_t2 53 rfl rfl, nm_t2 54 rfl rfl, nm_t1 1 rfl rfl, nm_t2 55 rfl rfl, by decide +kernel⟩
def y_Board_makeBare : MethodName := ⟨"CardOffice$Board", "makeBare", "()I"⟩
abbrev b_Board_makeBare : ByteArray := prog_2_method_3_code
def r_Board_makeBare (c s : Nat) : Room := { frames := 1, cells := c, slots := s, locals := 23 }
theorem d_Board_makeBare : decode b_Board_makeBare 0 = .ok (.aload_n 0, 1) ∧ decode b_Board_makeBare 1 = .ok (.getfield 27, 3) ∧ decode b_Board_makeBare 4 = .ok (.istore_n 1, 1) ∧ decode b_Board_makeBare 5 = .ok (.aload_n 0, 1) ∧ decode b_Board_makeBare 6 = .ok (.iconst 0, 1) ∧ decode b_Board_makeBare 7 = .ok (.putfield 27, 3) ∧ decode b_Board_makeBare 10 = .ok (.aload_n 0, 1) ∧ decode b_Board_makeBare 11 = .ok (.getfield 18, 3) ∧ decode b_Board_makeBare 14 = .ok (.iconst 3, 1) ∧ decode b_Board_makeBare 15 = .ok (.invokestatic 21, 3) ∧ decode b_Board_makeBare 18 = .ok (.iload_n 1, 1) ∧ decode b_Board_makeBare 19 = .ok (.ireturn, 1) := ⟨by decide +kernel, by decide +kernel, by decide +kernel, by decide +kernel, by decide +kernel, by decide +kernel, by decide +kernel, by decide +kernel, by decide +kernel, by decide +kernel, by decide +kernel, by decide +kernel⟩
theorem v_Board_makeBare : Cond.instanceMethod y_Board_makeBare ∈ nm_Ts ∧ Cond.selects y_Board_makeBare.cls y_Board_makeBare y_Board_makeBare ∈ nm_Ts ∧ Cond.initialized y_Board_makeBare.cls ∈ nm_Ts ∧ Cond.code y_Board_makeBare b_Board_makeBare 2 (some .int) ∈ nm_Ts ∧ mz_cl1 y_Board_makeBare 0 := ⟨nm_t2 57 rfl rfl, nm_t2 58 rfl rfl, nm_t1 10 rfl rfl, nm_t2 59 rfl rfl, by decide +kernel⟩
def y_Office_level : MethodName := ⟨"CardOffice", "level", "(III)Z"⟩
abbrev b_Office_level : ByteArray := prog_1_method_5_code
def r_Office_level (c s : Nat) : Room := { frames := 1, cells := c, slots := s, locals := 20 }
theorem d_Office_level : decode b_Office_level 0 = .ok (.iload_n 1, 1) ∧ decode b_Office_level 1 = .ok (.invokestatic 84, 3) ∧ decode b_Office_level 4 = .ok (.ifCond .eq 19, 3) ∧ decode b_Office_level 7 = .ok (.iload_n 2, 1) ∧ decode b_Office_level 8 = .ok (.invokestatic 100, 3) ∧ decode b_Office_level 11 = .ok (.ifCond .eq 12, 3) ∧ decode b_Office_level 14 = .ok (.iload_n 3, 1) ∧ decode b_Office_level 15 = .ok (.ifCond .lt 8, 3) ∧ decode b_Office_level 18 = .ok (.iload_n 3, 1) ∧ decode b_Office_level 19 = .ok (.iconst 4, 1) ∧ decode b_Office_level 20 = .ok (.if_icmp .lt 5, 3) ∧ decode b_Office_level 23 = .ok (.iconst 0, 1) ∧ decode b_Office_level 24 = .ok (.ireturn, 1) ∧ decode b_Office_level 25 = .ok (.aload_n 0, 1) ∧ decode b_Office_level 26 = .ok (.getfield 17, 3) ∧ decode b_Office_level 29 = .ok (.iload_n 1, 1) ∧ decode b_Office_level 30 = .ok (.aaload, 1) ∧ decode b_Office_level 31 = .ok (.getfield 103, 3) ∧ decode b_Office_level 34 = .ok (.iload_n 2, 1) ∧ decode b_Office_level 35 = .ok (.iload_n 3, 1) ∧ decode b_Office_level 36 = .ok (.iastore, 1) ∧ decode b_Office_level 37 = .ok (.iconst 1, 1) ∧ decode b_Office_level 38 = .ok (.ireturn, 1) := ⟨by decide +kernel, by decide +kernel, by decide +kernel, by decide +kernel, by decide +kernel, by decide +kernel, by decide +kernel, by decide +kernel, by decide +kernel, by decide +kernel, by decide +kernel, by decide +kernel, by decide +kernel, by decide +kernel, by decide +kernel, by decide +kernel, by decide +kernel, by decide +kernel, by decide +kernel, by decide +kernel, by decide +kernel, by decide +kernel, by decide +kernel⟩
theorem v_Office_level : Cond.instanceMethod y_Office_level ∈ nm_Ts ∧ Cond.selects y_Office_level.cls y_Office_level y_Office_level ∈ nm_Ts ∧ Cond.initialized y_Office_level.cls ∈ nm_Ts ∧ Cond.code y_Office_level b_Office_level 4 (some .boolean) ∈ nm_Ts ∧ mz_cl1 y_Office_level 3 := ⟨nm_t2 61 rfl rfl, nm_t2 62 rfl rfl, nm_t1 1 rfl rfl, nm_t2 63 rfl rfl, by decide +kernel⟩
def y_Office_isCounter : MethodName := ⟨"CardOffice", "isCounter", "(I)Z"⟩
abbrev b_Office_isCounter : ByteArray := prog_1_method_24_code
def r_Office_isCounter (c s : Nat) : Room := { frames := 0, cells := c, slots := s, locals := 0 }
theorem d_Office_isCounter : decode b_Office_isCounter 0 = .ok (.iload_n 0, 1) ∧ decode b_Office_isCounter 1 = .ok (.ifCond .lt 12, 3) ∧ decode b_Office_isCounter 4 = .ok (.iload_n 0, 1) ∧ decode b_Office_isCounter 5 = .ok (.iconst 4, 1) ∧ decode b_Office_isCounter 6 = .ok (.if_icmp .ge 7, 3) ∧ decode b_Office_isCounter 9 = .ok (.iconst 1, 1) ∧ decode b_Office_isCounter 10 = .ok (.goto 4, 3) ∧ decode b_Office_isCounter 13 = .ok (.iconst 0, 1) ∧ decode b_Office_isCounter 14 = .ok (.ireturn, 1) := ⟨by decide +kernel, by decide +kernel, by decide +kernel, by decide +kernel, by decide +kernel, by decide +kernel, by decide +kernel, by decide +kernel, by decide +kernel⟩
theorem s_Office_isCounter : Cond.static y_Office_isCounter ∈ nm_Ts ∧ Cond.initialized y_Office_isCounter.cls ∈ nm_Ts ∧ Cond.code y_Office_isCounter b_Office_isCounter 1 (some .boolean) ∈ nm_Ts ∧ mz_cl1 y_Office_isCounter 1 := ⟨nm_t2 65 rfl rfl, nm_t1 1 rfl rfl, nm_t2 66 rfl rfl, by decide +kernel⟩
def y_Office_cut : MethodName := ⟨"CardOffice", "cut", "(III)Z"⟩
abbrev b_Office_cut : ByteArray := prog_1_method_14_code
def r_Office_cut (c s : Nat) : Room := { frames := 2, cells := c, slots := s, locals := 45 }
theorem d_Office_cut : decode b_Office_cut 0 = .ok (.iload_n 1, 1) ∧ decode b_Office_cut 1 = .ok (.iload_n 3, 1) ∧ decode b_Office_cut 2 = .ok (.invokestatic 129, 3) ∧ decode b_Office_cut 5 = .ok (.ifCond .eq 16, 3) ∧ decode b_Office_cut 8 = .ok (.aload_n 0, 1) ∧ decode b_Office_cut 9 = .ok (.getfield 11, 3) ∧ decode b_Office_cut 12 = .ok (.iload_n 1, 1) ∧ decode b_Office_cut 13 = .ok (.aaload, 1) ∧ decode b_Office_cut 14 = .ok (.getfield 183, 3) ∧ decode b_Office_cut 17 = .ok (.iload_n 2, 1) ∧ decode b_Office_cut 18 = .ok (.if_icmp .ge 5, 3) ∧ decode b_Office_cut 21 = .ok (.iconst 0, 1) ∧ decode b_Office_cut 22 = .ok (.ireturn, 1) ∧ decode b_Office_cut 23 = .ok (.aload_n 0, 1) ∧ decode b_Office_cut 24 = .ok (.getfield 11, 3) ∧ decode b_Office_cut 27 = .ok (.iload_n 1, 1) ∧ decode b_Office_cut 28 = .ok (.aaload, 1) ∧ decode b_Office_cut 29 = .ok (.iload_n 2, 1) ∧ decode b_Office_cut 30 = .ok (.aload_n 0, 1) ∧ decode b_Office_cut 31 = .ok (.getfield 11, 3) ∧ decode b_Office_cut 34 = .ok (.iload_n 3, 1) ∧ decode b_Office_cut 35 = .ok (.aaload, 1) ∧ decode b_Office_cut 36 = .ok (.invokevirtual 187, 3) ∧ decode b_Office_cut 39 = .ok (.iconst 1, 1) ∧ decode b_Office_cut 40 = .ok (.ireturn, 1) := ⟨by decide +kernel, by decide +kernel, by decide +kernel, by decide +kernel, by decide +kernel, by decide +kernel, by decide +kernel, by decide +kernel, by decide +kernel, by decide +kernel, by decide +kernel, by decide +kernel, by decide +kernel, by decide +kernel, by decide +kernel, by decide +kernel, by decide +kernel, by decide +kernel, by decide +kernel, by decide +kernel, by decide +kernel, by decide +kernel, by decide +kernel, by decide +kernel, by decide +kernel⟩
theorem v_Office_cut : Cond.instanceMethod y_Office_cut ∈ nm_Ts ∧ Cond.selects y_Office_cut.cls y_Office_cut y_Office_cut ∈ nm_Ts ∧ Cond.initialized y_Office_cut.cls ∈ nm_Ts ∧ Cond.code y_Office_cut b_Office_cut 4 (some .boolean) ∈ nm_Ts ∧ mz_cl1 y_Office_cut 3 := ⟨nm_t2 68 rfl rfl, nm_t2 69 rfl rfl, nm_t1 1 rfl rfl, nm_t2 70 rfl rfl, by decide +kernel⟩
def y_Office_areTwoDecks : MethodName := ⟨"CardOffice", "areTwoDecks", "(II)Z"⟩
abbrev b_Office_areTwoDecks : ByteArray := prog_1_method_22_code
def r_Office_areTwoDecks (c s : Nat) : Room := { frames := 1, cells := c, slots := s, locals := 20 }
theorem d_Office_areTwoDecks : decode b_Office_areTwoDecks 0 = .ok (.iload_n 0, 1) ∧ decode b_Office_areTwoDecks 1 = .ok (.invokestatic 62, 3) ∧ decode b_Office_areTwoDecks 4 = .ok (.ifCond .eq 19, 3) ∧ decode b_Office_areTwoDecks 7 = .ok (.iload_n 1, 1) ∧ decode b_Office_areTwoDecks 8 = .ok (.invokestatic 62, 3) ∧ decode b_Office_areTwoDecks 11 = .ok (.ifCond .eq 12, 3) ∧ decode b_Office_areTwoDecks 14 = .ok (.iload_n 0, 1) ∧ decode b_Office_areTwoDecks 15 = .ok (.iload_n 1, 1) ∧ decode b_Office_areTwoDecks 16 = .ok (.if_icmp .eq 7, 3) ∧ decode b_Office_areTwoDecks 19 = .ok (.iconst 1, 1) ∧ decode b_Office_areTwoDecks 20 = .ok (.goto 4, 3) ∧ decode b_Office_areTwoDecks 23 = .ok (.iconst 0, 1) ∧ decode b_Office_areTwoDecks 24 = .ok (.ireturn, 1) := ⟨by decide +kernel, by decide +kernel, by decide +kernel, by decide +kernel, by decide +kernel, by decide +kernel, by decide +kernel, by decide +kernel, by decide +kernel, by decide +kernel, by decide +kernel, by decide +kernel, by decide +kernel⟩
theorem s_Office_areTwoDecks : Cond.static y_Office_areTwoDecks ∈ nm_Ts ∧ Cond.initialized y_Office_areTwoDecks.cls ∈ nm_Ts ∧ Cond.code y_Office_areTwoDecks b_Office_areTwoDecks 2 (some .boolean) ∈ nm_Ts ∧ mz_cl1 y_Office_areTwoDecks 2 := ⟨nm_t2 72 rfl rfl, nm_t1 1 rfl rfl, nm_t2 73 rfl rfl, by decide +kernel⟩
def y_Deck_moveFirst : MethodName := ⟨"CardOffice$Deck", "moveFirst", "(ILCardOffice$Deck;)V"⟩
abbrev b_Deck_moveFirst : ByteArray := prog_5_method_5_code
def r_Deck_moveFirst (c s : Nat) : Room := { frames := 1, cells := c, slots := s, locals := 21 }
theorem d_Deck_moveFirst : decode b_Deck_moveFirst 0 = .ok (.iload_n 1, 1) ∧ decode b_Deck_moveFirst 1 = .ok (.iconst 0, 1) ∧ decode b_Deck_moveFirst 2 = .ok (.invokestatic 21, 3) ∧ decode b_Deck_moveFirst 5 = .ok (.istore_n 3, 1) ∧ decode b_Deck_moveFirst 6 = .ok (.iconst 0, 1) ∧ decode b_Deck_moveFirst 7 = .ok (.istore 4, 2) ∧ decode b_Deck_moveFirst 9 = .ok (.iload 4, 2) ∧ decode b_Deck_moveFirst 11 = .ok (.iload_n 3, 1) ∧ decode b_Deck_moveFirst 12 = .ok (.if_icmp .ge 20, 3) ∧ decode b_Deck_moveFirst 15 = .ok (.aload_n 2, 1) ∧ decode b_Deck_moveFirst 16 = .ok (.aload_n 0, 1) ∧ decode b_Deck_moveFirst 17 = .ok (.getfield 11, 3) ∧ decode b_Deck_moveFirst 20 = .ok (.iload 4, 2) ∧ decode b_Deck_moveFirst 22 = .ok (.aaload, 1) ∧ decode b_Deck_moveFirst 23 = .ok (.invokevirtual 27, 3) ∧ decode b_Deck_moveFirst 26 = .ok (.iinc 4 1, 3) ∧ decode b_Deck_moveFirst 29 = .ok (.goto (-20), 3) ∧ decode b_Deck_moveFirst 32 = .ok (.iload_n 3, 1) ∧ decode b_Deck_moveFirst 33 = .ok (.istore 4, 2) ∧ decode b_Deck_moveFirst 35 = .ok (.iload 4, 2) ∧ decode b_Deck_moveFirst 37 = .ok (.aload_n 0, 1) ∧ decode b_Deck_moveFirst 38 = .ok (.getfield 17, 3) ∧ decode b_Deck_moveFirst 41 = .ok (.if_icmp .ge 25, 3) ∧ decode b_Deck_moveFirst 44 = .ok (.aload_n 0, 1) ∧ decode b_Deck_moveFirst 45 = .ok (.getfield 11, 3) ∧ decode b_Deck_moveFirst 48 = .ok (.iload 4, 2) ∧ decode b_Deck_moveFirst 50 = .ok (.iload_n 3, 1) ∧ decode b_Deck_moveFirst 51 = .ok (.isub, 1) ∧ decode b_Deck_moveFirst 52 = .ok (.aload_n 0, 1) ∧ decode b_Deck_moveFirst 53 = .ok (.getfield 11, 3) ∧ decode b_Deck_moveFirst 56 = .ok (.iload 4, 2) ∧ decode b_Deck_moveFirst 58 = .ok (.aaload, 1) ∧ decode b_Deck_moveFirst 59 = .ok (.aastore, 1) ∧ decode b_Deck_moveFirst 60 = .ok (.iinc 4 1, 3) ∧ decode b_Deck_moveFirst 63 = .ok (.goto (-28), 3) ∧ decode b_Deck_moveFirst 66 = .ok (.aload_n 0, 1) ∧ decode b_Deck_moveFirst 67 = .ok (.dup, 1) ∧ decode b_Deck_moveFirst 68 = .ok (.getfield 17, 3) ∧ decode b_Deck_moveFirst 71 = .ok (.iload_n 3, 1) ∧ decode b_Deck_moveFirst 72 = .ok (.isub, 1) ∧ decode b_Deck_moveFirst 73 = .ok (.putfield 17, 3) ∧ decode b_Deck_moveFirst 76 = .ok (.return_, 1) := ⟨by decide +kernel, by decide +kernel, by decide +kernel, by decide +kernel, by decide +kernel, by decide +kernel, by decide +kernel, by decide +kernel, by decide +kernel, by decide +kernel, by decide +kernel, by decide +kernel, by decide +kernel, by decide +kernel, by decide +kernel, by decide +kernel, by decide +kernel, by decide +kernel, by decide +kernel, by decide +kernel, by decide +kernel, by decide +kernel, by decide +kernel, by decide +kernel, by decide +kernel, by decide +kernel, by decide +kernel, by decide +kernel, by decide +kernel, by decide +kernel, by decide +kernel, by decide +kernel, by decide +kernel, by decide +kernel, by decide +kernel, by decide +kernel, by decide +kernel, by decide +kernel, by decide +kernel, by decide +kernel, by decide +kernel, by decide +kernel⟩
theorem v_Deck_moveFirst : Cond.instanceMethod y_Deck_moveFirst ∈ nm_Ts ∧ Cond.selects y_Deck_moveFirst.cls y_Deck_moveFirst y_Deck_moveFirst ∈ nm_Ts ∧ Cond.initialized y_Deck_moveFirst.cls ∈ nm_Ts ∧ Cond.code y_Deck_moveFirst b_Deck_moveFirst 5 none ∈ nm_Ts ∧ mz_cl1 y_Deck_moveFirst 2 := ⟨nm_t2 75 rfl rfl, nm_t2 76 rfl rfl, nm_t1 5 rfl rfl, nm_t2 77 rfl rfl, by decide +kernel⟩
def y_Office_tear : MethodName := ⟨"CardOffice", "tear", "()I"⟩
abbrev b_Office_tear : ByteArray := prog_1_method_18_code
def r_Office_tear (c s : Nat) : Room := { frames := 0, cells := c, slots := s, locals := 0 }
theorem d_Office_tear : decode b_Office_tear 0 = .ok (.aload_n 0, 1) ∧ decode b_Office_tear 1 = .ok (.getfield 56, 3) ∧ decode b_Office_tear 4 = .ok (.getfield 200, 3) ∧ decode b_Office_tear 7 = .ok (.getfield 204, 3) ∧ decode b_Office_tear 10 = .ok (.istore_n 1, 1) ∧ decode b_Office_tear 11 = .ok (.aload_n 0, 1) ∧ decode b_Office_tear 12 = .ok (.getfield 56, 3) ∧ decode b_Office_tear 15 = .ok (.getfield 200, 3) ∧ decode b_Office_tear 18 = .ok (.iconst 0, 1) ∧ decode b_Office_tear 19 = .ok (.putfield 204, 3) ∧ decode b_Office_tear 22 = .ok (.iload_n 1, 1) ∧ decode b_Office_tear 23 = .ok (.ireturn, 1) := ⟨by decide +kernel, by decide +kernel, by decide +kernel, by decide +kernel, by decide +kernel, by decide +kernel, by decide +kernel, by decide +kernel, by decide +kernel, by decide +kernel, by decide +kernel, by decide +kernel⟩
theorem v_Office_tear : Cond.instanceMethod y_Office_tear ∈ nm_Ts ∧ Cond.selects y_Office_tear.cls y_Office_tear y_Office_tear ∈ nm_Ts ∧ Cond.initialized y_Office_tear.cls ∈ nm_Ts ∧ Cond.code y_Office_tear b_Office_tear 2 (some .int) ∈ nm_Ts ∧ mz_cl1 y_Office_tear 0 := ⟨nm_t2 83 rfl rfl, nm_t2 84 rfl rfl, nm_t1 1 rfl rfl, nm_t2 85 rfl rfl, by decide +kernel⟩
def y_Office_fault : MethodName := ⟨"CardOffice", "fault", "(I)I"⟩
abbrev b_Office_fault : ByteArray := prog_1_method_19_code
def r_Office_fault (c s : Nat) : Room := { frames := 0, cells := c, slots := s, locals := 0 }
theorem d_Office_fault : decode b_Office_fault 0 = .ok (.iload_n 1, 1) ∧ decode b_Office_fault 1 = .ok (.lookupswitch 43 #[(0, 27), (1, 35)], 27) ∧ decode b_Office_fault 28 = .ok (.aload_n 0, 1) ∧ decode b_Office_fault 29 = .ok (.getfield 28, 3) ∧ decode b_Office_fault 32 = .ok (.getfield 219, 3) ∧ decode b_Office_fault 35 = .ok (.ireturn, 1) ∧ decode b_Office_fault 36 = .ok (.aload_n 0, 1) ∧ decode b_Office_fault 37 = .ok (.getfield 28, 3) ∧ decode b_Office_fault 40 = .ok (.getfield 222, 3) ∧ decode b_Office_fault 43 = .ok (.ireturn, 1) ∧ decode b_Office_fault 44 = .ok (.iconst (-1), 1) ∧ decode b_Office_fault 45 = .ok (.ireturn, 1) := ⟨by decide +kernel, by decide +kernel, by decide +kernel, by decide +kernel, by decide +kernel, by decide +kernel, by decide +kernel, by decide +kernel, by decide +kernel, by decide +kernel, by decide +kernel, by decide +kernel⟩
theorem v_Office_fault : Cond.instanceMethod y_Office_fault ∈ nm_Ts ∧ Cond.selects y_Office_fault.cls y_Office_fault y_Office_fault ∈ nm_Ts ∧ Cond.initialized y_Office_fault.cls ∈ nm_Ts ∧ Cond.code y_Office_fault b_Office_fault 2 (some .int) ∈ nm_Ts ∧ mz_cl1 y_Office_fault 1 := ⟨nm_t2 87 rfl rfl, nm_t2 88 rfl rfl, nm_t1 1 rfl rfl, nm_t2 89 rfl rfl, by decide +kernel⟩
def y_Office_count : MethodName := ⟨"CardOffice", "count", "(I)I"⟩
abbrev b_Office_count : ByteArray := prog_1_method_20_code
def r_Office_count (c s : Nat) : Room := { frames := 1, cells := c, slots := s, locals := 22 }
theorem d_Office_count : decode b_Office_count 0 = .ok (.iload_n 1, 1) ∧ decode b_Office_count 1 = .ok (.invokestatic 62, 3) ∧ decode b_Office_count 4 = .ok (.ifCond .eq 13, 3) ∧ decode b_Office_count 7 = .ok (.aload_n 0, 1) ∧ decode b_Office_count 8 = .ok (.getfield 11, 3) ∧ decode b_Office_count 11 = .ok (.iload_n 1, 1) ∧ decode b_Office_count 12 = .ok (.aaload, 1) ∧ decode b_Office_count 13 = .ok (.getfield 183, 3) ∧ decode b_Office_count 16 = .ok (.ireturn, 1) ∧ decode b_Office_count 17 = .ok (.iload_n 1, 1) ∧ decode b_Office_count 18 = .ok (.bipush 10, 2) ∧ decode b_Office_count 20 = .ok (.isub, 1) ∧ decode b_Office_count 21 = .ok (.invokestatic 84, 3) ∧ decode b_Office_count 24 = .ok (.ifCond .eq 16, 3) ∧ decode b_Office_count 27 = .ok (.aload_n 0, 1) ∧ decode b_Office_count 28 = .ok (.getfield 17, 3) ∧ decode b_Office_count 31 = .ok (.iload_n 1, 1) ∧ decode b_Office_count 32 = .ok (.bipush 10, 2) ∧ decode b_Office_count 34 = .ok (.isub, 1) ∧ decode b_Office_count 35 = .ok (.aaload, 1) ∧ decode b_Office_count 36 = .ok (.getfield 225, 3) ∧ decode b_Office_count 39 = .ok (.ireturn, 1) ∧ decode b_Office_count 40 = .ok (.iload_n 1, 1) ∧ decode b_Office_count 41 = .ok (.tableswitch 79 8 15 #[47, 52, 79, 79, 79, 79, 63, 71], 47) ∧ decode b_Office_count 88 = .ok (.aload_n 0, 1) ∧ decode b_Office_count 89 = .ok (.invokevirtual 66, 3) ∧ decode b_Office_count 92 = .ok (.ireturn, 1) ∧ decode b_Office_count 93 = .ok (.aload_n 0, 1) ∧ decode b_Office_count 94 = .ok (.getfield 56, 3) ∧ decode b_Office_count 97 = .ok (.getfield 200, 3) ∧ decode b_Office_count 100 = .ok (.getfield 204, 3) ∧ decode b_Office_count 103 = .ok (.ireturn, 1) ∧ decode b_Office_count 104 = .ok (.aload_n 0, 1) ∧ decode b_Office_count 105 = .ok (.getfield 35, 3) ∧ decode b_Office_count 108 = .ok (.getfield 228, 3) ∧ decode b_Office_count 111 = .ok (.ireturn, 1) ∧ decode b_Office_count 112 = .ok (.aload_n 0, 1) ∧ decode b_Office_count 113 = .ok (.getfield 42, 3) ∧ decode b_Office_count 116 = .ok (.getfield 231, 3) ∧ decode b_Office_count 119 = .ok (.ireturn, 1) ∧ decode b_Office_count 120 = .ok (.iconst (-1), 1) ∧ decode b_Office_count 121 = .ok (.ireturn, 1) := ⟨by decide +kernel, by decide +kernel, by decide +kernel, by decide +kernel, by decide +kernel, by decide +kernel, by decide +kernel, by decide +kernel, by decide +kernel, by decide +kernel, by decide +kernel, by decide +kernel, by decide +kernel, by decide +kernel, by decide +kernel, by decide +kernel, by decide +kernel, by decide +kernel, by decide +kernel, by decide +kernel, by decide +kernel, by decide +kernel, by decide +kernel, by decide +kernel, by decide +kernel, by decide +kernel, by decide +kernel, by decide +kernel, by decide +kernel, by decide +kernel, by decide +kernel, by decide +kernel, by decide +kernel, by decide +kernel, by decide +kernel, by decide +kernel, by decide +kernel, by decide +kernel, by decide +kernel, by decide +kernel, by decide +kernel, by decide +kernel⟩
theorem v_Office_count : Cond.instanceMethod y_Office_count ∈ nm_Ts ∧ Cond.selects y_Office_count.cls y_Office_count y_Office_count ∈ nm_Ts ∧ Cond.initialized y_Office_count.cls ∈ nm_Ts ∧ Cond.code y_Office_count b_Office_count 2 (some .int) ∈ nm_Ts ∧ mz_cl1 y_Office_count 1 := ⟨nm_t2 91 rfl rfl, nm_t2 92 rfl rfl, nm_t1 1 rfl rfl, nm_t2 93 rfl rfl, by decide +kernel⟩
def y_Office_pass : MethodName := ⟨"CardOffice", "pass", "(IIZ)I"⟩
abbrev b_Office_pass : ByteArray := prog_1_method_6_code
def r_Office_pass (c s : Nat) : Room := { frames := 7, cells := c, slots := s, locals := 113 }
theorem d_Office_pass : decode b_Office_pass 0 = .ok (.iload_n 1, 1) ∧ decode b_Office_pass 1 = .ok (.invokestatic 62, 3) ∧ decode b_Office_pass 4 = .ok (.ifCond .eq 10, 3) ∧ decode b_Office_pass 7 = .ok (.iload_n 2, 1) ∧ decode b_Office_pass 8 = .ok (.invokestatic 106, 3) ∧ decode b_Office_pass 11 = .ok (.ifCond .ne 13, 3) ∧ decode b_Office_pass 14 = .ok (.new 109, 3) ∧ decode b_Office_pass 17 = .ok (.dup, 1) ∧ decode b_Office_pass 18 = .ok (.ldc 111, 2) ∧ decode b_Office_pass 20 = .ok (.invokespecial 113, 3) ∧ decode b_Office_pass 23 = .ok (.athrow, 1) ∧ decode b_Office_pass 24 = .ok (.aload_n 0, 1) ∧ decode b_Office_pass 25 = .ok (.getfield 35, 3) ∧ decode b_Office_pass 28 = .ok (.aload_n 0, 1) ∧ decode b_Office_pass 29 = .ok (.getfield 11, 3) ∧ decode b_Office_pass 32 = .ok (.iload_n 1, 1) ∧ decode b_Office_pass 33 = .ok (.aaload, 1) ∧ decode b_Office_pass 34 = .ok (.iload_n 2, 1) ∧ decode b_Office_pass 35 = .ok (.iload_n 3, 1) ∧ decode b_Office_pass 36 = .ok (.invokevirtual 116, 3) ∧ decode b_Office_pass 39 = .ok (.ireturn, 1) := ⟨by decide +kernel, by decide +kernel, by decide +kernel, by decide +kernel, by decide +kernel, by decide +kernel, by decide +kernel, by decide +kernel, by decide +kernel, by decide +kernel, by decide +kernel, by decide +kernel, by decide +kernel, by decide +kernel, by decide +kernel, by decide +kernel, by decide +kernel, by decide +kernel, by decide +kernel, by decide +kernel, by decide +kernel⟩
theorem v_Office_pass : Cond.instanceMethod y_Office_pass ∈ nm_Ts ∧ Cond.selects y_Office_pass.cls y_Office_pass y_Office_pass ∈ nm_Ts ∧ Cond.initialized y_Office_pass.cls ∈ nm_Ts ∧ Cond.code y_Office_pass b_Office_pass 4 (some .int) ∈ nm_Ts ∧ mz_cl1 y_Office_pass 3 := ⟨nm_t2 99 rfl rfl, nm_t2 100 rfl rfl, nm_t1 1 rfl rfl, nm_t2 101 rfl rfl, by decide +kernel⟩
def y_Sorter_passOnce : MethodName := ⟨"CardOffice$Sorter", "passOnce", "(LCardOffice$Deck;IZ)I"⟩
abbrev b_Sorter_passOnce : ByteArray := prog_11_method_2_code
def r_Sorter_passOnce (c s : Nat) : Room := { frames := 4, cells := c, slots := s, locals := 87 }
theorem d_Sorter_passOnce : decode b_Sorter_passOnce 0 = .ok (.aload_n 0, 1) ∧ decode b_Sorter_passOnce 1 = .ok (.dup, 1) ∧ decode b_Sorter_passOnce 2 = .ok (.getfield 21, 3) ∧ decode b_Sorter_passOnce 5 = .ok (.iconst 1, 1) ∧ decode b_Sorter_passOnce 6 = .ok (.iadd, 1) ∧ decode b_Sorter_passOnce 7 = .ok (.putfield 21, 3) ∧ decode b_Sorter_passOnce 10 = .ok (.aload_n 0, 1) ∧ decode b_Sorter_passOnce 11 = .ok (.aload_n 1, 1) ∧ decode b_Sorter_passOnce 12 = .ok (.iload_n 2, 1) ∧ decode b_Sorter_passOnce 13 = .ok (.iload_n 3, 1) ∧ decode b_Sorter_passOnce 14 = .ok (.invokevirtual 25, 3) ∧ decode b_Sorter_passOnce 17 = .ok (.aload_n 0, 1) ∧ decode b_Sorter_passOnce 18 = .ok (.invokevirtual 29, 3) ∧ decode b_Sorter_passOnce 21 = .ok (.istore 4, 2) ∧ decode b_Sorter_passOnce 23 = .ok (.iconst 0, 1) ∧ decode b_Sorter_passOnce 24 = .ok (.istore 5, 2) ∧ decode b_Sorter_passOnce 26 = .ok (.iload 5, 2) ∧ decode b_Sorter_passOnce 28 = .ok (.aload_n 1, 1) ∧ decode b_Sorter_passOnce 29 = .ok (.getfield 33, 3) ∧ decode b_Sorter_passOnce 32 = .ok (.if_icmp .ge 51, 3) ∧ decode b_Sorter_passOnce 35 = .ok (.aload_n 1, 1) ∧ decode b_Sorter_passOnce 36 = .ok (.iload 5, 2) ∧ decode b_Sorter_passOnce 38 = .ok (.invokevirtual 38, 3) ∧ decode b_Sorter_passOnce 41 = .ok (.iload_n 2, 1) ∧ decode b_Sorter_passOnce 42 = .ok (.iload_n 3, 1) ∧ decode b_Sorter_passOnce 43 = .ok (.invokestatic 42, 3) ∧ decode b_Sorter_passOnce 46 = .ok (.istore 6, 2) ∧ decode b_Sorter_passOnce 48 = .ok (.aload_n 0, 1) ∧ decode b_Sorter_passOnce 49 = .ok (.getfield 17, 3) ∧ decode b_Sorter_passOnce 52 = .ok (.aload_n 0, 1) ∧ decode b_Sorter_passOnce 53 = .ok (.getfield 9, 3) ∧ decode b_Sorter_passOnce 56 = .ok (.iload 6, 2) ∧ decode b_Sorter_passOnce 58 = .ok (.iaload, 1) ∧ decode b_Sorter_passOnce 59 = .ok (.aload_n 1, 1) ∧ decode b_Sorter_passOnce 60 = .ok (.iload 5, 2) ∧ decode b_Sorter_passOnce 62 = .ok (.invokevirtual 38, 3) ∧ decode b_Sorter_passOnce 65 = .ok (.aastore, 1) ∧ decode b_Sorter_passOnce 66 = .ok (.aload_n 0, 1) ∧ decode b_Sorter_passOnce 67 = .ok (.getfield 9, 3) ∧ decode b_Sorter_passOnce 70 = .ok (.iload 6, 2) ∧ decode b_Sorter_passOnce 72 = .ok (.dup2, 1) ∧ decode b_Sorter_passOnce 73 = .ok (.iaload, 1) ∧ decode b_Sorter_passOnce 74 = .ok (.iconst 1, 1) ∧ decode b_Sorter_passOnce 75 = .ok (.iadd, 1) ∧ decode b_Sorter_passOnce 76 = .ok (.iastore, 1) ∧ decode b_Sorter_passOnce 77 = .ok (.iinc 5 1, 3) ∧ decode b_Sorter_passOnce 80 = .ok (.goto (-54), 3) ∧ decode b_Sorter_passOnce 83 = .ok (.iconst 0, 1) ∧ decode b_Sorter_passOnce 84 = .ok (.istore 5, 2) ∧ decode b_Sorter_passOnce 86 = .ok (.iload 5, 2) ∧ decode b_Sorter_passOnce 88 = .ok (.aload_n 1, 1) ∧ decode b_Sorter_passOnce 89 = .ok (.getfield 33, 3) ∧ decode b_Sorter_passOnce 92 = .ok (.if_icmp .ge 23, 3) ∧ decode b_Sorter_passOnce 95 = .ok (.aload_n 1, 1) ∧ decode b_Sorter_passOnce 96 = .ok (.getfield 46, 3) ∧ decode b_Sorter_passOnce 99 = .ok (.iload 5, 2) ∧ decode b_Sorter_passOnce 101 = .ok (.aload_n 0, 1) ∧ decode b_Sorter_passOnce 102 = .ok (.getfield 17, 3) ∧ decode b_Sorter_passOnce 105 = .ok (.iload 5, 2) ∧ decode b_Sorter_passOnce 107 = .ok (.aaload, 1) ∧ decode b_Sorter_passOnce 108 = .ok (.aastore, 1) ∧ decode b_Sorter_passOnce 109 = .ok (.iinc 5 1, 3) ∧ decode b_Sorter_passOnce 112 = .ok (.goto (-26), 3) ∧ decode b_Sorter_passOnce 115 = .ok (.iload 4, 2) ∧ decode b_Sorter_passOnce 117 = .ok (.ireturn, 1) := ⟨by decide +kernel, by decide +kernel, by decide +kernel, by decide +kernel, by decide +kernel, by decide +kernel, by decide +kernel, by decide +kernel, by decide +kernel, by decide +kernel, by decide +kernel, by decide +kernel, by decide +kernel, by decide +kernel, by decide +kernel, by decide +kernel, by decide +kernel, by decide +kernel, by decide +kernel, by decide +kernel, by decide +kernel, by decide +kernel, by decide +kernel, by decide +kernel, by decide +kernel, by decide +kernel, by decide +kernel, by decide +kernel, by decide +kernel, by decide +kernel, by decide +kernel, by decide +kernel, by decide +kernel, by decide +kernel, by decide +kernel, by decide +kernel, by decide +kernel, by decide +kernel, by decide +kernel, by decide +kernel, by decide +kernel, by decide +kernel, by decide +kernel, by decide +kernel, by decide +kernel, by decide +kernel, by decide +kernel, by decide +kernel, by decide +kernel, by decide +kernel, by decide +kernel, by decide +kernel, by decide +kernel, by decide +kernel, by decide +kernel, by decide +kernel, by decide +kernel, by decide +kernel, by decide +kernel, by decide +kernel, by decide +kernel, by decide +kernel, by decide +kernel, by decide +kernel, by decide +kernel⟩
theorem v_Sorter_passOnce : Cond.instanceMethod y_Sorter_passOnce ∈ nm_Ts ∧ Cond.selects y_Sorter_passOnce.cls y_Sorter_passOnce y_Sorter_passOnce ∈ nm_Ts ∧ Cond.initialized y_Sorter_passOnce.cls ∈ nm_Ts ∧ Cond.code y_Sorter_passOnce b_Sorter_passOnce 7 (some .int) ∈ nm_Ts ∧ mz_cl1 y_Sorter_passOnce 3 := ⟨nm_t2 171 rfl rfl, nm_t2 172 rfl rfl, nm_t1 3 rfl rfl, nm_t2 173 rfl rfl, by decide +kernel⟩
def y_Sorter_fillPockets : MethodName := ⟨"CardOffice$Sorter", "fillPockets", "(LCardOffice$Deck;IZ)V"⟩
abbrev b_Sorter_fillPockets : ByteArray := prog_11_method_4_code
def r_Sorter_fillPockets (c s : Nat) : Room := { frames := 3, cells := c, slots := s, locals := 63 }
theorem d_Sorter_fillPockets : decode b_Sorter_fillPockets 0 = .ok (.aload_n 0, 1) ∧ decode b_Sorter_fillPockets 1 = .ok (.getfield 9, 3) ∧ decode b_Sorter_fillPockets 4 = .ok (.iconst 0, 1) ∧ decode b_Sorter_fillPockets 5 = .ok (.invokestatic 61, 3) ∧ decode b_Sorter_fillPockets 8 = .ok (.iconst 0, 1) ∧ decode b_Sorter_fillPockets 9 = .ok (.istore 4, 2) ∧ decode b_Sorter_fillPockets 11 = .ok (.iload 4, 2) ∧ decode b_Sorter_fillPockets 13 = .ok (.aload_n 1, 1) ∧ decode b_Sorter_fillPockets 14 = .ok (.getfield 33, 3) ∧ decode b_Sorter_fillPockets 17 = .ok (.if_icmp .ge 29, 3) ∧ decode b_Sorter_fillPockets 20 = .ok (.aload_n 0, 1) ∧ decode b_Sorter_fillPockets 21 = .ok (.getfield 9, 3) ∧ decode b_Sorter_fillPockets 24 = .ok (.aload_n 1, 1) ∧ decode b_Sorter_fillPockets 25 = .ok (.iload 4, 2) ∧ decode b_Sorter_fillPockets 27 = .ok (.invokevirtual 38, 3) ∧ decode b_Sorter_fillPockets 30 = .ok (.iload_n 2, 1) ∧ decode b_Sorter_fillPockets 31 = .ok (.iload_n 3, 1) ∧ decode b_Sorter_fillPockets 32 = .ok (.invokestatic 42, 3) ∧ decode b_Sorter_fillPockets 35 = .ok (.dup2, 1) ∧ decode b_Sorter_fillPockets 36 = .ok (.iaload, 1) ∧ decode b_Sorter_fillPockets 37 = .ok (.iconst 1, 1) ∧ decode b_Sorter_fillPockets 38 = .ok (.iadd, 1) ∧ decode b_Sorter_fillPockets 39 = .ok (.iastore, 1) ∧ decode b_Sorter_fillPockets 40 = .ok (.iinc 4 1, 3) ∧ decode b_Sorter_fillPockets 43 = .ok (.goto (-32), 3) ∧ decode b_Sorter_fillPockets 46 = .ok (.return_, 1) := ⟨by decide +kernel, by decide +kernel, by decide +kernel, by decide +kernel, by decide +kernel, by decide +kernel, by decide +kernel, by decide +kernel, by decide +kernel, by decide +kernel, by decide +kernel, by decide +kernel, by decide +kernel, by decide +kernel, by decide +kernel, by decide +kernel, by decide +kernel, by decide +kernel, by decide +kernel, by decide +kernel, by decide +kernel, by decide +kernel, by decide +kernel, by decide +kernel, by decide +kernel, by decide +kernel⟩
theorem v_Sorter_fillPockets : Cond.instanceMethod y_Sorter_fillPockets ∈ nm_Ts ∧ Cond.selects y_Sorter_fillPockets.cls y_Sorter_fillPockets y_Sorter_fillPockets ∈ nm_Ts ∧ Cond.initialized y_Sorter_fillPockets.cls ∈ nm_Ts ∧ Cond.code y_Sorter_fillPockets b_Sorter_fillPockets 5 none ∈ nm_Ts ∧ mz_cl1 y_Sorter_fillPockets 3 := ⟨nm_t2 176 rfl rfl, nm_s 4 rfl rfl, nm_t1 3 rfl rfl, nm_t2 177 rfl rfl, by decide +kernel⟩
def y_Deck_at : MethodName := ⟨"CardOffice$Deck", "at", "(I)LCardOffice$Card;"⟩
abbrev b_Deck_at : ByteArray := prog_5_method_2_code
def r_Deck_at (c s : Nat) : Room := { frames := 0, cells := c, slots := s, locals := 0 }
theorem d_Deck_at : decode b_Deck_at 0 = .ok (.aload_n 0, 1) ∧ decode b_Deck_at 1 = .ok (.getfield 11, 3) ∧ decode b_Deck_at 4 = .ok (.iload_n 1, 1) ∧ decode b_Deck_at 5 = .ok (.aaload, 1) ∧ decode b_Deck_at 6 = .ok (.areturn, 1) := ⟨by decide +kernel, by decide +kernel, by decide +kernel, by decide +kernel, by decide +kernel⟩
theorem v_Deck_at : Cond.instanceMethod y_Deck_at ∈ nm_Ts ∧ Cond.selects y_Deck_at.cls y_Deck_at y_Deck_at ∈ nm_Ts ∧ Cond.initialized y_Deck_at.cls ∈ nm_Ts ∧ Cond.code y_Deck_at b_Deck_at 2 (some (.object "CardOffice$Card")) ∈ nm_Ts ∧ mz_cl1 y_Deck_at 1 := ⟨nm_t2 180 rfl rfl, nm_t2 181 rfl rfl, nm_t1 5 rfl rfl, nm_t2 182 rfl rfl, by decide +kernel⟩
def y_Sorter_pocketOf : MethodName := ⟨"CardOffice$Sorter", "pocketOf", "(LCardOffice$Card;IZ)I"⟩
abbrev b_Sorter_pocketOf : ByteArray := prog_11_method_6_code
def r_Sorter_pocketOf (c s : Nat) : Room := { frames := 2, cells := c, slots := s, locals := 40 }
theorem d_Sorter_pocketOf : decode b_Sorter_pocketOf 0 = .ok (.aload_n 0, 1) ∧ decode b_Sorter_pocketOf 1 = .ok (.getfield 67, 3) ∧ decode b_Sorter_pocketOf 4 = .ok (.iload_n 1, 1) ∧ decode b_Sorter_pocketOf 5 = .ok (.iaload, 1) ∧ decode b_Sorter_pocketOf 6 = .ok (.istore_n 3, 1) ∧ decode b_Sorter_pocketOf 7 = .ok (.iload_n 2, 1) ∧ decode b_Sorter_pocketOf 8 = .ok (.ifCond .eq 10, 3) ∧ decode b_Sorter_pocketOf 11 = .ok (.iload_n 3, 1) ∧ decode b_Sorter_pocketOf 12 = .ok (.invokestatic 70, 3) ∧ decode b_Sorter_pocketOf 15 = .ok (.goto 7, 3) ∧ decode b_Sorter_pocketOf 18 = .ok (.iload_n 3, 1) ∧ decode b_Sorter_pocketOf 19 = .ok (.invokestatic 74, 3) ∧ decode b_Sorter_pocketOf 22 = .ok (.ireturn, 1) := ⟨by decide +kernel, by decide +kernel, by decide +kernel, by decide +kernel, by decide +kernel, by decide +kernel, by decide +kernel, by decide +kernel, by decide +kernel, by decide +kernel, by decide +kernel, by decide +kernel, by decide +kernel⟩
theorem s_Sorter_pocketOf : Cond.static y_Sorter_pocketOf ∈ nm_Ts ∧ Cond.initialized y_Sorter_pocketOf.cls ∈ nm_Ts ∧ Cond.code y_Sorter_pocketOf b_Sorter_pocketOf 4 (some .int) ∈ nm_Ts ∧ mz_cl1 y_Sorter_pocketOf 3 := ⟨nm_t2 184 rfl rfl, nm_t1 3 rfl rfl, nm_t2 185 rfl rfl, by decide +kernel⟩
def y_Office_zoneOf : MethodName := ⟨"CardOffice", "zoneOf", "(I)I"⟩
abbrev b_Office_zoneOf : ByteArray := prog_1_method_38_code
def r_Office_zoneOf (c s : Nat) : Room := { frames := 0, cells := c, slots := s, locals := 0 }
theorem d_Office_zoneOf : decode b_Office_zoneOf 0 = .ok (.iload_n 0, 1) ∧ decode b_Office_zoneOf 1 = .ok (.bipush 83, 2) ∧ decode b_Office_zoneOf 3 = .ok (.if_icmp .lt 5, 3) ∧ decode b_Office_zoneOf 6 = .ok (.iconst 1, 1) ∧ decode b_Office_zoneOf 7 = .ok (.ireturn, 1) ∧ decode b_Office_zoneOf 8 = .ok (.iload_n 0, 1) ∧ decode b_Office_zoneOf 9 = .ok (.bipush 74, 2) ∧ decode b_Office_zoneOf 11 = .ok (.if_icmp .lt 5, 3) ∧ decode b_Office_zoneOf 14 = .ok (.iconst 2, 1) ∧ decode b_Office_zoneOf 15 = .ok (.ireturn, 1) ∧ decode b_Office_zoneOf 16 = .ok (.iload_n 0, 1) ∧ decode b_Office_zoneOf 17 = .ok (.bipush 65, 2) ∧ decode b_Office_zoneOf 19 = .ok (.if_icmp .lt 7, 3) ∧ decode b_Office_zoneOf 22 = .ok (.iconst 3, 1) ∧ decode b_Office_zoneOf 23 = .ok (.goto 4, 3) ∧ decode b_Office_zoneOf 26 = .ok (.iconst 0, 1) ∧ decode b_Office_zoneOf 27 = .ok (.ireturn, 1) := ⟨by decide +kernel, by decide +kernel, by decide +kernel, by decide +kernel, by decide +kernel, by decide +kernel, by decide +kernel, by decide +kernel, by decide +kernel, by decide +kernel, by decide +kernel, by decide +kernel, by decide +kernel, by decide +kernel, by decide +kernel, by decide +kernel, by decide +kernel⟩
theorem s_Office_zoneOf : Cond.static y_Office_zoneOf ∈ nm_Ts ∧ Cond.initialized y_Office_zoneOf.cls ∈ nm_Ts ∧ Cond.code y_Office_zoneOf b_Office_zoneOf 1 (some .int) ∈ nm_Ts ∧ mz_cl1 y_Office_zoneOf 1 := ⟨nm_t2 187 rfl rfl, nm_t1 1 rfl rfl, nm_t2 188 rfl rfl, by decide +kernel⟩
def y_Office_digitPocketOf : MethodName := ⟨"CardOffice", "digitPocketOf", "(I)I"⟩
abbrev b_Office_digitPocketOf : ByteArray := prog_1_method_39_code
def r_Office_digitPocketOf (c s : Nat) : Room := { frames := 1, cells := c, slots := s, locals := 20 }
theorem d_Office_digitPocketOf : decode b_Office_digitPocketOf 0 = .ok (.iload_n 0, 1) ∧ decode b_Office_digitPocketOf 1 = .ok (.invokestatic 247, 3) ∧ decode b_Office_digitPocketOf 4 = .ok (.iconst 1, 1) ∧ decode b_Office_digitPocketOf 5 = .ok (.iadd, 1) ∧ decode b_Office_digitPocketOf 6 = .ok (.ireturn, 1) := ⟨by decide +kernel, by decide +kernel, by decide +kernel, by decide +kernel, by decide +kernel⟩
theorem s_Office_digitPocketOf : Cond.static y_Office_digitPocketOf ∈ nm_Ts ∧ Cond.initialized y_Office_digitPocketOf.cls ∈ nm_Ts ∧ Cond.code y_Office_digitPocketOf b_Office_digitPocketOf 1 (some .int) ∈ nm_Ts ∧ mz_cl1 y_Office_digitPocketOf 1 := ⟨nm_t2 190 rfl rfl, nm_t1 1 rfl rfl, nm_t2 191 rfl rfl, by decide +kernel⟩
def y_Office_digitOf : MethodName := ⟨"CardOffice", "digitOf", "(I)I"⟩
abbrev b_Office_digitOf : ByteArray := prog_1_method_37_code
def r_Office_digitOf (c s : Nat) : Room := { frames := 0, cells := c, slots := s, locals := 0 }
theorem d_Office_digitOf : decode b_Office_digitOf 0 = .ok (.iload_n 0, 1) ∧ decode b_Office_digitOf 1 = .ok (.bipush 83, 2) ∧ decode b_Office_digitOf 3 = .ok (.if_icmp .lt 10, 3) ∧ decode b_Office_digitOf 6 = .ok (.iload_n 0, 1) ∧ decode b_Office_digitOf 7 = .ok (.bipush 83, 2) ∧ decode b_Office_digitOf 9 = .ok (.isub, 1) ∧ decode b_Office_digitOf 10 = .ok (.iconst 2, 1) ∧ decode b_Office_digitOf 11 = .ok (.iadd, 1) ∧ decode b_Office_digitOf 12 = .ok (.ireturn, 1) ∧ decode b_Office_digitOf 13 = .ok (.iload_n 0, 1) ∧ decode b_Office_digitOf 14 = .ok (.bipush 74, 2) ∧ decode b_Office_digitOf 16 = .ok (.if_icmp .lt 10, 3) ∧ decode b_Office_digitOf 19 = .ok (.iload_n 0, 1) ∧ decode b_Office_digitOf 20 = .ok (.bipush 74, 2) ∧ decode b_Office_digitOf 22 = .ok (.isub, 1) ∧ decode b_Office_digitOf 23 = .ok (.iconst 1, 1) ∧ decode b_Office_digitOf 24 = .ok (.iadd, 1) ∧ decode b_Office_digitOf 25 = .ok (.ireturn, 1) ∧ decode b_Office_digitOf 26 = .ok (.iload_n 0, 1) ∧ decode b_Office_digitOf 27 = .ok (.bipush 65, 2) ∧ decode b_Office_digitOf 29 = .ok (.if_icmp .lt 10, 3) ∧ decode b_Office_digitOf 32 = .ok (.iload_n 0, 1) ∧ decode b_Office_digitOf 33 = .ok (.bipush 65, 2) ∧ decode b_Office_digitOf 35 = .ok (.isub, 1) ∧ decode b_Office_digitOf 36 = .ok (.iconst 1, 1) ∧ decode b_Office_digitOf 37 = .ok (.iadd, 1) ∧ decode b_Office_digitOf 38 = .ok (.ireturn, 1) ∧ decode b_Office_digitOf 39 = .ok (.iload_n 0, 1) ∧ decode b_Office_digitOf 40 = .ok (.bipush 32, 2) ∧ decode b_Office_digitOf 42 = .ok (.if_icmp .ne 7, 3) ∧ decode b_Office_digitOf 45 = .ok (.iconst (-1), 1) ∧ decode b_Office_digitOf 46 = .ok (.goto 7, 3) ∧ decode b_Office_digitOf 49 = .ok (.iload_n 0, 1) ∧ decode b_Office_digitOf 50 = .ok (.bipush 48, 2) ∧ decode b_Office_digitOf 52 = .ok (.isub, 1) ∧ decode b_Office_digitOf 53 = .ok (.ireturn, 1) := ⟨by decide +kernel, by decide +kernel, by decide +kernel, by decide +kernel, by decide +kernel, by decide +kernel, by decide +kernel, by decide +kernel, by decide +kernel, by decide +kernel, by decide +kernel, by decide +kernel, by decide +kernel, by decide +kernel, by decide +kernel, by decide +kernel, by decide +kernel, by decide +kernel, by decide +kernel, by decide +kernel, by decide +kernel, by decide +kernel, by decide +kernel, by decide +kernel, by decide +kernel, by decide +kernel, by decide +kernel, by decide +kernel, by decide +kernel, by decide +kernel, by decide +kernel, by decide +kernel, by decide +kernel, by decide +kernel, by decide +kernel, by decide +kernel⟩
theorem s_Office_digitOf : Cond.static y_Office_digitOf ∈ nm_Ts ∧ Cond.initialized y_Office_digitOf.cls ∈ nm_Ts ∧ Cond.code y_Office_digitOf b_Office_digitOf 1 (some .int) ∈ nm_Ts ∧ mz_cl1 y_Office_digitOf 1 := ⟨nm_t2 193 rfl rfl, nm_t1 1 rfl rfl, nm_t2 194 rfl rfl, by decide +kernel⟩
def y_Sorter_stackPockets : MethodName := ⟨"CardOffice$Sorter", "stackPockets", "()I"⟩
abbrev b_Sorter_stackPockets : ByteArray := prog_11_method_5_code
def r_Sorter_stackPockets (c s : Nat) : Room := { frames := 0, cells := c, slots := s, locals := 0 }
theorem d_Sorter_stackPockets : decode b_Sorter_stackPockets 0 = .ok (.iconst 0, 1) ∧ decode b_Sorter_stackPockets 1 = .ok (.istore_n 1, 1) ∧ decode b_Sorter_stackPockets 2 = .ok (.iconst 0, 1) ∧ decode b_Sorter_stackPockets 3 = .ok (.istore_n 2, 1) ∧ decode b_Sorter_stackPockets 4 = .ok (.iconst 0, 1) ∧ decode b_Sorter_stackPockets 5 = .ok (.istore_n 3, 1) ∧ decode b_Sorter_stackPockets 6 = .ok (.iload_n 3, 1) ∧ decode b_Sorter_stackPockets 7 = .ok (.bipush 11, 2) ∧ decode b_Sorter_stackPockets 9 = .ok (.if_icmp .ge 37, 3) ∧ decode b_Sorter_stackPockets 12 = .ok (.aload_n 0, 1) ∧ decode b_Sorter_stackPockets 13 = .ok (.getfield 9, 3) ∧ decode b_Sorter_stackPockets 16 = .ok (.iload_n 3, 1) ∧ decode b_Sorter_stackPockets 17 = .ok (.iaload, 1) ∧ decode b_Sorter_stackPockets 18 = .ok (.istore 4, 2) ∧ decode b_Sorter_stackPockets 20 = .ok (.iload 4, 2) ∧ decode b_Sorter_stackPockets 22 = .ok (.ifCond .le 6, 3) ∧ decode b_Sorter_stackPockets 25 = .ok (.iinc 1 1, 3) ∧ decode b_Sorter_stackPockets 28 = .ok (.aload_n 0, 1) ∧ decode b_Sorter_stackPockets 29 = .ok (.getfield 9, 3) ∧ decode b_Sorter_stackPockets 32 = .ok (.iload_n 3, 1) ∧ decode b_Sorter_stackPockets 33 = .ok (.iload_n 2, 1) ∧ decode b_Sorter_stackPockets 34 = .ok (.iastore, 1) ∧ decode b_Sorter_stackPockets 35 = .ok (.iload_n 2, 1) ∧ decode b_Sorter_stackPockets 36 = .ok (.iload 4, 2) ∧ decode b_Sorter_stackPockets 38 = .ok (.iadd, 1) ∧ decode b_Sorter_stackPockets 39 = .ok (.istore_n 2, 1) ∧ decode b_Sorter_stackPockets 40 = .ok (.iinc 3 1, 3) ∧ decode b_Sorter_stackPockets 43 = .ok (.goto (-37), 3) ∧ decode b_Sorter_stackPockets 46 = .ok (.iload_n 1, 1) ∧ decode b_Sorter_stackPockets 47 = .ok (.ireturn, 1) := ⟨by decide +kernel, by decide +kernel, by decide +kernel, by decide +kernel, by decide +kernel, by decide +kernel, by decide +kernel, by decide +kernel, by decide +kernel, by decide +kernel, by decide +kernel, by decide +kernel, by decide +kernel, by decide +kernel, by decide +kernel, by decide +kernel, by decide +kernel, by decide +kernel, by decide +kernel, by decide +kernel, by decide +kernel, by decide +kernel, by decide +kernel, by decide +kernel, by decide +kernel, by decide +kernel, by decide +kernel, by decide +kernel, by decide +kernel, by decide +kernel⟩
theorem v_Sorter_stackPockets : Cond.instanceMethod y_Sorter_stackPockets ∈ nm_Ts ∧ Cond.selects y_Sorter_stackPockets.cls y_Sorter_stackPockets y_Sorter_stackPockets ∈ nm_Ts ∧ Cond.initialized y_Sorter_stackPockets.cls ∈ nm_Ts ∧ Cond.code y_Sorter_stackPockets b_Sorter_stackPockets 5 (some .int) ∈ nm_Ts ∧ mz_cl1 y_Sorter_stackPockets 0 := ⟨nm_t2 197 rfl rfl, nm_s 5 rfl rfl, nm_t1 3 rfl rfl, nm_t2 198 rfl rfl, by decide +kernel⟩
def y_Office_sort : MethodName := ⟨"CardOffice", "sort", "(III)I"⟩
abbrev b_Office_sort : ByteArray := prog_1_method_7_code
def r_Office_sort (c s : Nat) : Room := { frames := 7, cells := c, slots := s, locals := 138 }
theorem d_Office_sort : decode b_Office_sort 0 = .ok (.iload_n 1, 1) ∧ decode b_Office_sort 1 = .ok (.invokestatic 62, 3) ∧ decode b_Office_sort 4 = .ok (.ifCond .eq 11, 3) ∧ decode b_Office_sort 7 = .ok (.iload_n 2, 1) ∧ decode b_Office_sort 8 = .ok (.iload_n 3, 1) ∧ decode b_Office_sort 9 = .ok (.invokestatic 120, 3) ∧ decode b_Office_sort 12 = .ok (.ifCond .ne 13, 3) ∧ decode b_Office_sort 15 = .ok (.new 109, 3) ∧ decode b_Office_sort 18 = .ok (.dup, 1) ∧ decode b_Office_sort 19 = .ok (.ldc 123, 2) ∧ decode b_Office_sort 21 = .ok (.invokespecial 113, 3) ∧ decode b_Office_sort 24 = .ok (.athrow, 1) ∧ decode b_Office_sort 25 = .ok (.aload_n 0, 1) ∧ decode b_Office_sort 26 = .ok (.getfield 35, 3) ∧ decode b_Office_sort 29 = .ok (.aload_n 0, 1) ∧ decode b_Office_sort 30 = .ok (.getfield 11, 3) ∧ decode b_Office_sort 33 = .ok (.iload_n 1, 1) ∧ decode b_Office_sort 34 = .ok (.aaload, 1) ∧ decode b_Office_sort 35 = .ok (.iload_n 2, 1) ∧ decode b_Office_sort 36 = .ok (.iload_n 3, 1) ∧ decode b_Office_sort 37 = .ok (.invokevirtual 125, 3) ∧ decode b_Office_sort 40 = .ok (.ireturn, 1) := ⟨by decide +kernel, by decide +kernel, by decide +kernel, by decide +kernel, by decide +kernel, by decide +kernel, by decide +kernel, by decide +kernel, by decide +kernel, by decide +kernel, by decide +kernel, by decide +kernel, by decide +kernel, by decide +kernel, by decide +kernel, by decide +kernel, by decide +kernel, by decide +kernel, by decide +kernel, by decide +kernel, by decide +kernel, by decide +kernel⟩
theorem v_Office_sort : Cond.instanceMethod y_Office_sort ∈ nm_Ts ∧ Cond.selects y_Office_sort.cls y_Office_sort y_Office_sort ∈ nm_Ts ∧ Cond.initialized y_Office_sort.cls ∈ nm_Ts ∧ Cond.code y_Office_sort b_Office_sort 4 (some .int) ∈ nm_Ts ∧ mz_cl1 y_Office_sort 3 := ⟨nm_t2 203 rfl rfl, nm_t2 204 rfl rfl, nm_t1 1 rfl rfl, nm_t2 205 rfl rfl, by decide +kernel⟩
def y_Office_isField : MethodName := ⟨"CardOffice", "isField", "(II)Z"⟩
abbrev b_Office_isField : ByteArray := prog_1_method_26_code
def r_Office_isField (c s : Nat) : Room := { frames := 0, cells := c, slots := s, locals := 0 }
theorem d_Office_isField : decode b_Office_isField 0 = .ok (.iload_n 0, 1) ∧ decode b_Office_isField 1 = .ok (.ifCond .lt 18, 3) ∧ decode b_Office_isField 4 = .ok (.iload_n 0, 1) ∧ decode b_Office_isField 5 = .ok (.iload_n 1, 1) ∧ decode b_Office_isField 6 = .ok (.if_icmp .gt 13, 3) ∧ decode b_Office_isField 9 = .ok (.iload_n 1, 1) ∧ decode b_Office_isField 10 = .ok (.bipush 16, 2) ∧ decode b_Office_isField 12 = .ok (.if_icmp .ge 7, 3) ∧ decode b_Office_isField 15 = .ok (.iconst 1, 1) ∧ decode b_Office_isField 16 = .ok (.goto 4, 3) ∧ decode b_Office_isField 19 = .ok (.iconst 0, 1) ∧ decode b_Office_isField 20 = .ok (.ireturn, 1) := ⟨by decide +kernel, by decide +kernel, by decide +kernel, by decide +kernel, by decide +kernel, by decide +kernel, by decide +kernel, by decide +kernel, by decide +kernel, by decide +kernel, by decide +kernel, by decide +kernel⟩
theorem s_Office_isField : Cond.static y_Office_isField ∈ nm_Ts ∧ Cond.initialized y_Office_isField.cls ∈ nm_Ts ∧ Cond.code y_Office_isField b_Office_isField 2 (some .boolean) ∈ nm_Ts ∧ mz_cl1 y_Office_isField 2 := ⟨nm_t2 207 rfl rfl, nm_t1 1 rfl rfl, nm_t2 208 rfl rfl, by decide +kernel⟩
def y_Sorter_sortOn : MethodName := ⟨"CardOffice$Sorter", "sortOn", "(LCardOffice$Deck;II)I"⟩
abbrev b_Sorter_sortOn : ByteArray := prog_11_method_3_code
def r_Sorter_sortOn (c s : Nat) : Room := { frames := 5, cells := c, slots := s, locals := 113 }
theorem d_Sorter_sortOn : decode b_Sorter_sortOn 0 = .ok (.aload_n 1, 1) ∧ decode b_Sorter_sortOn 1 = .ok (.iload_n 2, 1) ∧ decode b_Sorter_sortOn 2 = .ok (.iload_n 3, 1) ∧ decode b_Sorter_sortOn 3 = .ok (.invokevirtual 49, 3) ∧ decode b_Sorter_sortOn 6 = .ok (.ifCond .eq 5, 3) ∧ decode b_Sorter_sortOn 9 = .ok (.iconst 0, 1) ∧ decode b_Sorter_sortOn 10 = .ok (.ireturn, 1) ∧ decode b_Sorter_sortOn 11 = .ok (.aload_n 0, 1) ∧ decode b_Sorter_sortOn 12 = .ok (.getfield 21, 3) ∧ decode b_Sorter_sortOn 15 = .ok (.istore 4, 2) ∧ decode b_Sorter_sortOn 17 = .ok (.iload_n 3, 1) ∧ decode b_Sorter_sortOn 18 = .ok (.istore 5, 2) ∧ decode b_Sorter_sortOn 20 = .ok (.iload 5, 2) ∧ decode b_Sorter_sortOn 22 = .ok (.iload_n 2, 1) ∧ decode b_Sorter_sortOn 23 = .ok (.if_icmp .lt 36, 3) ∧ decode b_Sorter_sortOn 26 = .ok (.aload_n 0, 1) ∧ decode b_Sorter_sortOn 27 = .ok (.aload_n 1, 1) ∧ decode b_Sorter_sortOn 28 = .ok (.iload 5, 2) ∧ decode b_Sorter_sortOn 30 = .ok (.iconst 0, 1) ∧ decode b_Sorter_sortOn 31 = .ok (.invokevirtual 53, 3) ∧ decode b_Sorter_sortOn 34 = .ok (.pop, 1) ∧ decode b_Sorter_sortOn 35 = .ok (.aload_n 1, 1) ∧ decode b_Sorter_sortOn 36 = .ok (.iload 5, 2) ∧ decode b_Sorter_sortOn 38 = .ok (.invokevirtual 57, 3) ∧ decode b_Sorter_sortOn 41 = .ok (.ifCond .eq 12, 3) ∧ decode b_Sorter_sortOn 44 = .ok (.aload_n 0, 1) ∧ decode b_Sorter_sortOn 45 = .ok (.aload_n 1, 1) ∧ decode b_Sorter_sortOn 46 = .ok (.iload 5, 2) ∧ decode b_Sorter_sortOn 48 = .ok (.iconst 1, 1) ∧ decode b_Sorter_sortOn 49 = .ok (.invokevirtual 53, 3) ∧ decode b_Sorter_sortOn 52 = .ok (.pop, 1) ∧ decode b_Sorter_sortOn 53 = .ok (.iinc 5 (-1), 3) ∧ decode b_Sorter_sortOn 56 = .ok (.goto (-36), 3) ∧ decode b_Sorter_sortOn 59 = .ok (.aload_n 0, 1) ∧ decode b_Sorter_sortOn 60 = .ok (.getfield 21, 3) ∧ decode b_Sorter_sortOn 63 = .ok (.iload 4, 2) ∧ decode b_Sorter_sortOn 65 = .ok (.isub, 1) ∧ decode b_Sorter_sortOn 66 = .ok (.ireturn, 1) := ⟨by decide +kernel, by decide +kernel, by decide +kernel, by decide +kernel, by decide +kernel, by decide +kernel, by decide +kernel, by decide +kernel, by decide +kernel, by decide +kernel, by decide +kernel, by decide +kernel, by decide +kernel, by decide +kernel, by decide +kernel, by decide +kernel, by decide +kernel, by decide +kernel, by decide +kernel, by decide +kernel, by decide +kernel, by decide +kernel, by decide +kernel, by decide +kernel, by decide +kernel, by decide +kernel, by decide +kernel, by decide +kernel, by decide +kernel, by decide +kernel, by decide +kernel, by decide +kernel, by decide +kernel, by decide +kernel, by decide +kernel, by decide +kernel, by decide +kernel, by decide +kernel⟩
theorem v_Sorter_sortOn : Cond.instanceMethod y_Sorter_sortOn ∈ nm_Ts ∧ Cond.selects y_Sorter_sortOn.cls y_Sorter_sortOn y_Sorter_sortOn ∈ nm_Ts ∧ Cond.initialized y_Sorter_sortOn.cls ∈ nm_Ts ∧ Cond.code y_Sorter_sortOn b_Sorter_sortOn 6 (some .int) ∈ nm_Ts ∧ mz_cl1 y_Sorter_sortOn 3 := ⟨nm_t2 211 rfl rfl, nm_t2 212 rfl rfl, nm_t1 3 rfl rfl, nm_t2 213 rfl rfl, by decide +kernel⟩
def y_Deck_isSorted : MethodName := ⟨"CardOffice$Deck", "isSorted", "(II)Z"⟩
abbrev b_Deck_isSorted : ByteArray := prog_5_method_6_code
def r_Deck_isSorted (c s : Nat) : Room := { frames := 4, cells := c, slots := s, locals := 84 }
theorem d_Deck_isSorted : decode b_Deck_isSorted 0 = .ok (.iconst 1, 1) ∧ decode b_Deck_isSorted 1 = .ok (.istore_n 3, 1) ∧ decode b_Deck_isSorted 2 = .ok (.iload_n 3, 1) ∧ decode b_Deck_isSorted 3 = .ok (.aload_n 0, 1) ∧ decode b_Deck_isSorted 4 = .ok (.getfield 17, 3) ∧ decode b_Deck_isSorted 7 = .ok (.if_icmp .ge 33, 3) ∧ decode b_Deck_isSorted 10 = .ok (.aload_n 0, 1) ∧ decode b_Deck_isSorted 11 = .ok (.getfield 11, 3) ∧ decode b_Deck_isSorted 14 = .ok (.iload_n 3, 1) ∧ decode b_Deck_isSorted 15 = .ok (.aaload, 1) ∧ decode b_Deck_isSorted 16 = .ok (.aload_n 0, 1) ∧ decode b_Deck_isSorted 17 = .ok (.getfield 11, 3) ∧ decode b_Deck_isSorted 20 = .ok (.iload_n 3, 1) ∧ decode b_Deck_isSorted 21 = .ok (.iconst 1, 1) ∧ decode b_Deck_isSorted 22 = .ok (.isub, 1) ∧ decode b_Deck_isSorted 23 = .ok (.aaload, 1) ∧ decode b_Deck_isSorted 24 = .ok (.iload_n 1, 1) ∧ decode b_Deck_isSorted 25 = .ok (.iload_n 2, 1) ∧ decode b_Deck_isSorted 26 = .ok (.invokevirtual 31, 3) ∧ decode b_Deck_isSorted 29 = .ok (.ifCond .ge 5, 3) ∧ decode b_Deck_isSorted 32 = .ok (.iconst 0, 1) ∧ decode b_Deck_isSorted 33 = .ok (.ireturn, 1) ∧ decode b_Deck_isSorted 34 = .ok (.iinc 3 1, 3) ∧ decode b_Deck_isSorted 37 = .ok (.goto (-35), 3) ∧ decode b_Deck_isSorted 40 = .ok (.iconst 1, 1) ∧ decode b_Deck_isSorted 41 = .ok (.ireturn, 1) := ⟨by decide +kernel, by decide +kernel, by decide +kernel, by decide +kernel, by decide +kernel, by decide +kernel, by decide +kernel, by decide +kernel, by decide +kernel, by decide +kernel, by decide +kernel, by decide +kernel, by decide +kernel, by decide +kernel, by decide +kernel, by decide +kernel, by decide +kernel, by decide +kernel, by decide +kernel, by decide +kernel, by decide +kernel, by decide +kernel, by decide +kernel, by decide +kernel, by decide +kernel, by decide +kernel⟩
theorem v_Deck_isSorted : Cond.instanceMethod y_Deck_isSorted ∈ nm_Ts ∧ Cond.selects y_Deck_isSorted.cls y_Deck_isSorted y_Deck_isSorted ∈ nm_Ts ∧ Cond.initialized y_Deck_isSorted.cls ∈ nm_Ts ∧ Cond.code y_Deck_isSorted b_Deck_isSorted 4 (some .boolean) ∈ nm_Ts ∧ mz_cl1 y_Deck_isSorted 2 := ⟨nm_t2 215 rfl rfl, nm_t2 216 rfl rfl, nm_t1 5 rfl rfl, nm_t2 217 rfl rfl, by decide +kernel⟩
def y_Card_compareOn : MethodName := ⟨"CardOffice$Card", "compareOn", "(LCardOffice$Card;II)I"⟩
abbrev b_Card_compareOn : ByteArray := prog_3_method_2_code
def r_Card_compareOn (c s : Nat) : Room := { frames := 3, cells := c, slots := s, locals := 60 }
theorem d_Card_compareOn : decode b_Card_compareOn 0 = .ok (.iload_n 2, 1) ∧ decode b_Card_compareOn 1 = .ok (.istore 4, 2) ∧ decode b_Card_compareOn 3 = .ok (.iload 4, 2) ∧ decode b_Card_compareOn 5 = .ok (.iload_n 3, 1) ∧ decode b_Card_compareOn 6 = .ok (.if_icmp .gt 50, 3) ∧ decode b_Card_compareOn 9 = .ok (.aload_n 0, 1) ∧ decode b_Card_compareOn 10 = .ok (.getfield 9, 3) ∧ decode b_Card_compareOn 13 = .ok (.iload 4, 2) ∧ decode b_Card_compareOn 15 = .ok (.iaload, 1) ∧ decode b_Card_compareOn 16 = .ok (.aload_n 1, 1) ∧ decode b_Card_compareOn 17 = .ok (.getfield 9, 3) ∧ decode b_Card_compareOn 20 = .ok (.iload 4, 2) ∧ decode b_Card_compareOn 22 = .ok (.iaload, 1) ∧ decode b_Card_compareOn 23 = .ok (.if_icmp .eq 27, 3) ∧ decode b_Card_compareOn 26 = .ok (.aload_n 0, 1) ∧ decode b_Card_compareOn 27 = .ok (.getfield 9, 3) ∧ decode b_Card_compareOn 30 = .ok (.iload 4, 2) ∧ decode b_Card_compareOn 32 = .ok (.iaload, 1) ∧ decode b_Card_compareOn 33 = .ok (.invokestatic 15, 3) ∧ decode b_Card_compareOn 36 = .ok (.aload_n 1, 1) ∧ decode b_Card_compareOn 37 = .ok (.getfield 9, 3) ∧ decode b_Card_compareOn 40 = .ok (.iload 4, 2) ∧ decode b_Card_compareOn 42 = .ok (.iaload, 1) ∧ decode b_Card_compareOn 43 = .ok (.invokestatic 15, 3) ∧ decode b_Card_compareOn 46 = .ok (.invokestatic 19, 3) ∧ decode b_Card_compareOn 49 = .ok (.ireturn, 1) ∧ decode b_Card_compareOn 50 = .ok (.iinc 4 1, 3) ∧ decode b_Card_compareOn 53 = .ok (.goto (-50), 3) ∧ decode b_Card_compareOn 56 = .ok (.iconst 0, 1) ∧ decode b_Card_compareOn 57 = .ok (.ireturn, 1) := ⟨by decide +kernel, by decide +kernel, by decide +kernel, by decide +kernel, by decide +kernel, by decide +kernel, by decide +kernel, by decide +kernel, by decide +kernel, by decide +kernel, by decide +kernel, by decide +kernel, by decide +kernel, by decide +kernel, by decide +kernel, by decide +kernel, by decide +kernel, by decide +kernel, by decide +kernel, by decide +kernel, by decide +kernel, by decide +kernel, by decide +kernel, by decide +kernel, by decide +kernel, by decide +kernel, by decide +kernel, by decide +kernel, by decide +kernel, by decide +kernel⟩
theorem v_Card_compareOn : Cond.instanceMethod y_Card_compareOn ∈ nm_Ts ∧ Cond.selects y_Card_compareOn.cls y_Card_compareOn y_Card_compareOn ∈ nm_Ts ∧ Cond.initialized y_Card_compareOn.cls ∈ nm_Ts ∧ Cond.code y_Card_compareOn b_Card_compareOn 5 (some .int) ∈ nm_Ts ∧ mz_cl1 y_Card_compareOn 3 := ⟨nm_t2 219 rfl rfl, nm_t2 220 rfl rfl, nm_t1 13 rfl rfl, nm_t2 221 rfl rfl, by decide +kernel⟩
def y_Office_rankOf : MethodName := ⟨"CardOffice", "rankOf", "(I)I"⟩
abbrev b_Office_rankOf : ByteArray := prog_1_method_40_code
def r_Office_rankOf (c s : Nat) : Room := { frames := 2, cells := c, slots := s, locals := 40 }
theorem d_Office_rankOf : decode b_Office_rankOf 0 = .ok (.iload_n 0, 1) ∧ decode b_Office_rankOf 1 = .ok (.invokestatic 250, 3) ∧ decode b_Office_rankOf 4 = .ok (.bipush 11, 2) ∧ decode b_Office_rankOf 6 = .ok (.imul, 1) ∧ decode b_Office_rankOf 7 = .ok (.iload_n 0, 1) ∧ decode b_Office_rankOf 8 = .ok (.invokestatic 253, 3) ∧ decode b_Office_rankOf 11 = .ok (.iadd, 1) ∧ decode b_Office_rankOf 12 = .ok (.ireturn, 1) := ⟨by decide +kernel, by decide +kernel, by decide +kernel, by decide +kernel, by decide +kernel, by decide +kernel, by decide +kernel, by decide +kernel⟩
theorem s_Office_rankOf : Cond.static y_Office_rankOf ∈ nm_Ts ∧ Cond.initialized y_Office_rankOf.cls ∈ nm_Ts ∧ Cond.code y_Office_rankOf b_Office_rankOf 1 (some .int) ∈ nm_Ts ∧ mz_cl1 y_Office_rankOf 1 := ⟨nm_t2 223 rfl rfl, nm_t1 1 rfl rfl, nm_t2 224 rfl rfl, by decide +kernel⟩
def y_Integer_compare : MethodName := ⟨"java/lang/Integer", "compare", "(II)I"⟩
abbrev b_Integer_compare : ByteArray := prog_19_method_40_code
def r_Integer_compare (c s : Nat) : Room := { frames := 0, cells := c, slots := s, locals := 0 }
theorem d_Integer_compare : decode b_Integer_compare 0 = .ok (.iload_n 0, 1) ∧ decode b_Integer_compare 1 = .ok (.iload_n 1, 1) ∧ decode b_Integer_compare 2 = .ok (.if_icmp .ge 7, 3) ∧ decode b_Integer_compare 5 = .ok (.iconst (-1), 1) ∧ decode b_Integer_compare 6 = .ok (.goto 13, 3) ∧ decode b_Integer_compare 9 = .ok (.iload_n 0, 1) ∧ decode b_Integer_compare 10 = .ok (.iload_n 1, 1) ∧ decode b_Integer_compare 11 = .ok (.if_icmp .ne 7, 3) ∧ decode b_Integer_compare 14 = .ok (.iconst 0, 1) ∧ decode b_Integer_compare 15 = .ok (.goto 4, 3) ∧ decode b_Integer_compare 18 = .ok (.iconst 1, 1) ∧ decode b_Integer_compare 19 = .ok (.ireturn, 1) := ⟨by decide +kernel, by decide +kernel, by decide +kernel, by decide +kernel, by decide +kernel, by decide +kernel, by decide +kernel, by decide +kernel, by decide +kernel, by decide +kernel, by decide +kernel, by decide +kernel⟩
theorem s_Integer_compare : Cond.static y_Integer_compare ∈ nm_Ts ∧ Cond.initialized y_Integer_compare.cls ∈ nm_Ts ∧ Cond.code y_Integer_compare b_Integer_compare 2 (some .int) ∈ nm_Ts ∧ mz_cl1 y_Integer_compare 2 := ⟨nm_t2 228 rfl rfl, nm_t1 18 rfl rfl, nm_t2 229 rfl rfl, by decide +kernel⟩
def y_Deck_hasZoneIn : MethodName := ⟨"CardOffice$Deck", "hasZoneIn", "(I)Z"⟩
abbrev b_Deck_hasZoneIn : ByteArray := prog_5_method_7_code
def r_Deck_hasZoneIn (c s : Nat) : Room := { frames := 1, cells := c, slots := s, locals := 20 }
theorem d_Deck_hasZoneIn : decode b_Deck_hasZoneIn 0 = .ok (.iconst 0, 1) ∧ decode b_Deck_hasZoneIn 1 = .ok (.istore_n 2, 1) ∧ decode b_Deck_hasZoneIn 2 = .ok (.iload_n 2, 1) ∧ decode b_Deck_hasZoneIn 3 = .ok (.aload_n 0, 1) ∧ decode b_Deck_hasZoneIn 4 = .ok (.getfield 17, 3) ∧ decode b_Deck_hasZoneIn 7 = .ok (.if_icmp .ge 28, 3) ∧ decode b_Deck_hasZoneIn 10 = .ok (.aload_n 0, 1) ∧ decode b_Deck_hasZoneIn 11 = .ok (.getfield 11, 3) ∧ decode b_Deck_hasZoneIn 14 = .ok (.iload_n 2, 1) ∧ decode b_Deck_hasZoneIn 15 = .ok (.aaload, 1) ∧ decode b_Deck_hasZoneIn 16 = .ok (.getfield 35, 3) ∧ decode b_Deck_hasZoneIn 19 = .ok (.iload_n 1, 1) ∧ decode b_Deck_hasZoneIn 20 = .ok (.iaload, 1) ∧ decode b_Deck_hasZoneIn 21 = .ok (.invokestatic 39, 3) ∧ decode b_Deck_hasZoneIn 24 = .ok (.ifCond .le 5, 3) ∧ decode b_Deck_hasZoneIn 27 = .ok (.iconst 1, 1) ∧ decode b_Deck_hasZoneIn 28 = .ok (.ireturn, 1) ∧ decode b_Deck_hasZoneIn 29 = .ok (.iinc 2 1, 3) ∧ decode b_Deck_hasZoneIn 32 = .ok (.goto (-30), 3) ∧ decode b_Deck_hasZoneIn 35 = .ok (.iconst 0, 1) ∧ decode b_Deck_hasZoneIn 36 = .ok (.ireturn, 1) := ⟨by decide +kernel, by decide +kernel, by decide +kernel, by decide +kernel, by decide +kernel, by decide +kernel, by decide +kernel, by decide +kernel, by decide +kernel, by decide +kernel, by decide +kernel, by decide +kernel, by decide +kernel, by decide +kernel, by decide +kernel, by decide +kernel, by decide +kernel, by decide +kernel, by decide +kernel, by decide +kernel, by decide +kernel⟩
theorem v_Deck_hasZoneIn : Cond.instanceMethod y_Deck_hasZoneIn ∈ nm_Ts ∧ Cond.selects y_Deck_hasZoneIn.cls y_Deck_hasZoneIn y_Deck_hasZoneIn ∈ nm_Ts ∧ Cond.initialized y_Deck_hasZoneIn.cls ∈ nm_Ts ∧ Cond.code y_Deck_hasZoneIn b_Deck_hasZoneIn 3 (some .boolean) ∈ nm_Ts ∧ mz_cl1 y_Deck_hasZoneIn 1 := ⟨nm_t2 232 rfl rfl, nm_t2 233 rfl rfl, nm_t1 5 rfl rfl, nm_t2 234 rfl rfl, by decide +kernel⟩
def y_Office_merge : MethodName := ⟨"CardOffice", "merge", "(IIII)I"⟩
abbrev b_Office_merge : ByteArray := prog_1_method_8_code
def r_Office_merge (c s : Nat) : Room := { frames := 7, cells := c, slots := s, locals := 137 }
theorem d_Office_merge : decode b_Office_merge 0 = .ok (.iload_n 1, 1) ∧ decode b_Office_merge 1 = .ok (.iload_n 2, 1) ∧ decode b_Office_merge 2 = .ok (.invokestatic 129, 3) ∧ decode b_Office_merge 5 = .ok (.ifCond .eq 12, 3) ∧ decode b_Office_merge 8 = .ok (.iload_n 3, 1) ∧ decode b_Office_merge 9 = .ok (.iload 4, 2) ∧ decode b_Office_merge 11 = .ok (.invokestatic 120, 3) ∧ decode b_Office_merge 14 = .ok (.ifCond .ne 13, 3) ∧ decode b_Office_merge 17 = .ok (.new 109, 3) ∧ decode b_Office_merge 20 = .ok (.dup, 1) ∧ decode b_Office_merge 21 = .ok (.ldc 132, 2) ∧ decode b_Office_merge 23 = .ok (.invokespecial 113, 3) ∧ decode b_Office_merge 26 = .ok (.athrow, 1) ∧ decode b_Office_merge 27 = .ok (.aload_n 0, 1) ∧ decode b_Office_merge 28 = .ok (.getfield 11, 3) ∧ decode b_Office_merge 31 = .ok (.iload_n 1, 1) ∧ decode b_Office_merge 32 = .ok (.aaload, 1) ∧ decode b_Office_merge 33 = .ok (.iload_n 3, 1) ∧ decode b_Office_merge 34 = .ok (.iload 4, 2) ∧ decode b_Office_merge 36 = .ok (.invokevirtual 134, 3) ∧ decode b_Office_merge 39 = .ok (.ifCond .eq 18, 3) ∧ decode b_Office_merge 42 = .ok (.aload_n 0, 1) ∧ decode b_Office_merge 43 = .ok (.getfield 11, 3) ∧ decode b_Office_merge 46 = .ok (.iload_n 2, 1) ∧ decode b_Office_merge 47 = .ok (.aaload, 1) ∧ decode b_Office_merge 48 = .ok (.iload_n 3, 1) ∧ decode b_Office_merge 49 = .ok (.iload 4, 2) ∧ decode b_Office_merge 51 = .ok (.invokevirtual 134, 3) ∧ decode b_Office_merge 54 = .ok (.ifCond .ne 13, 3) ∧ decode b_Office_merge 57 = .ok (.new 137, 3) ∧ decode b_Office_merge 60 = .ok (.dup, 1) ∧ decode b_Office_merge 61 = .ok (.ldc 139, 2) ∧ decode b_Office_merge 63 = .ok (.invokespecial 141, 3) ∧ decode b_Office_merge 66 = .ok (.athrow, 1) ∧ decode b_Office_merge 67 = .ok (.aload_n 0, 1) ∧ decode b_Office_merge 68 = .ok (.getfield 42, 3) ∧ decode b_Office_merge 71 = .ok (.aload_n 0, 1) ∧ decode b_Office_merge 72 = .ok (.getfield 11, 3) ∧ decode b_Office_merge 75 = .ok (.iload_n 1, 1) ∧ decode b_Office_merge 76 = .ok (.aaload, 1) ∧ decode b_Office_merge 77 = .ok (.aload_n 0, 1) ∧ decode b_Office_merge 78 = .ok (.getfield 11, 3) ∧ decode b_Office_merge 81 = .ok (.iload_n 2, 1) ∧ decode b_Office_merge 82 = .ok (.aaload, 1) ∧ decode b_Office_merge 83 = .ok (.iload_n 3, 1) ∧ decode b_Office_merge 84 = .ok (.iload 4, 2) ∧ decode b_Office_merge 86 = .ok (.invokevirtual 142, 3) ∧ decode b_Office_merge 89 = .ok (.ireturn, 1) := ⟨by decide +kernel, by decide +kernel, by decide +kernel, by decide +kernel, by decide +kernel, by decide +kernel, by decide +kernel, by decide +kernel, by decide +kernel, by decide +kernel, by decide +kernel, by decide +kernel, by decide +kernel, by decide +kernel, by decide +kernel, by decide +kernel, by decide +kernel, by decide +kernel, by decide +kernel, by decide +kernel, by decide +kernel, by decide +kernel, by decide +kernel, by decide +kernel, by decide +kernel, by decide +kernel, by decide +kernel, by decide +kernel, by decide +kernel, by decide +kernel, by decide +kernel, by decide +kernel, by decide +kernel, by decide +kernel, by decide +kernel, by decide +kernel, by decide +kernel, by decide +kernel, by decide +kernel, by decide +kernel, by decide +kernel, by decide +kernel, by decide +kernel, by decide +kernel, by decide +kernel, by decide +kernel, by decide +kernel, by decide +kernel⟩
theorem v_Office_merge : Cond.instanceMethod y_Office_merge ∈ nm_Ts ∧ Cond.selects y_Office_merge.cls y_Office_merge y_Office_merge ∈ nm_Ts ∧ Cond.initialized y_Office_merge.cls ∈ nm_Ts ∧ Cond.code y_Office_merge b_Office_merge 5 (some .int) ∈ nm_Ts ∧ mz_cl1 y_Office_merge 4 := ⟨nm_t3 1 rfl rfl, nm_t3 2 rfl rfl, nm_t1 1 rfl rfl, nm_t3 3 rfl rfl, by decide +kernel⟩
def y_Collator_mergeOn : MethodName := ⟨"CardOffice$Collator", "mergeOn", "(LCardOffice$Deck;LCardOffice$Deck;II)I"⟩
abbrev b_Collator_mergeOn : ByteArray := prog_4_method_2_code
def r_Collator_mergeOn (c s : Nat) : Room := { frames := 5, cells := c, slots := s, locals := 109 }
theorem d_Collator_mergeOn : decode b_Collator_mergeOn 0 = .ok (.aload_n 1, 1) ∧ decode b_Collator_mergeOn 1 = .ok (.getfield 19, 3) ∧ decode b_Collator_mergeOn 4 = .ok (.aload_n 2, 1) ∧ decode b_Collator_mergeOn 5 = .ok (.getfield 19, 3) ∧ decode b_Collator_mergeOn 8 = .ok (.iadd, 1) ∧ decode b_Collator_mergeOn 9 = .ok (.istore 5, 2) ∧ decode b_Collator_mergeOn 11 = .ok (.iconst 0, 1) ∧ decode b_Collator_mergeOn 12 = .ok (.istore 6, 2) ∧ decode b_Collator_mergeOn 14 = .ok (.iconst 0, 1) ∧ decode b_Collator_mergeOn 15 = .ok (.istore 7, 2) ∧ decode b_Collator_mergeOn 17 = .ok (.aload_n 0, 1) ∧ decode b_Collator_mergeOn 18 = .ok (.dup, 1) ∧ decode b_Collator_mergeOn 19 = .ok (.getfield 23, 3) ∧ decode b_Collator_mergeOn 22 = .ok (.aload_n 2, 1) ∧ decode b_Collator_mergeOn 23 = .ok (.getfield 19, 3) ∧ decode b_Collator_mergeOn 26 = .ok (.iadd, 1) ∧ decode b_Collator_mergeOn 27 = .ok (.putfield 23, 3) ∧ decode b_Collator_mergeOn 30 = .ok (.iconst 0, 1) ∧ decode b_Collator_mergeOn 31 = .ok (.istore 8, 2) ∧ decode b_Collator_mergeOn 33 = .ok (.iload 8, 2) ∧ decode b_Collator_mergeOn 35 = .ok (.iload 5, 2) ∧ decode b_Collator_mergeOn 37 = .ok (.if_icmp .ge 59, 3) ∧ decode b_Collator_mergeOn 40 = .ok (.aload_n 1, 1) ∧ decode b_Collator_mergeOn 41 = .ok (.iload 6, 2) ∧ decode b_Collator_mergeOn 43 = .ok (.aload_n 2, 1) ∧ decode b_Collator_mergeOn 44 = .ok (.iload 7, 2) ∧ decode b_Collator_mergeOn 46 = .ok (.iload_n 3, 1) ∧ decode b_Collator_mergeOn 47 = .ok (.iload 4, 2) ∧ decode b_Collator_mergeOn 49 = .ok (.invokestatic 26, 3) ∧ decode b_Collator_mergeOn 52 = .ok (.ifCond .gt 22, 3) ∧ decode b_Collator_mergeOn 55 = .ok (.aload_n 0, 1) ∧ decode b_Collator_mergeOn 56 = .ok (.getfield 10, 3) ∧ decode b_Collator_mergeOn 59 = .ok (.aload_n 1, 1) ∧ decode b_Collator_mergeOn 60 = .ok (.iload 6, 2) ∧ decode b_Collator_mergeOn 62 = .ok (.invokevirtual 30, 3) ∧ decode b_Collator_mergeOn 65 = .ok (.invokevirtual 34, 3) ∧ decode b_Collator_mergeOn 68 = .ok (.iinc 6 1, 3) ∧ decode b_Collator_mergeOn 71 = .ok (.goto 19, 3) ∧ decode b_Collator_mergeOn 74 = .ok (.aload_n 0, 1) ∧ decode b_Collator_mergeOn 75 = .ok (.getfield 10, 3) ∧ decode b_Collator_mergeOn 78 = .ok (.aload_n 2, 1) ∧ decode b_Collator_mergeOn 79 = .ok (.iload 7, 2) ∧ decode b_Collator_mergeOn 81 = .ok (.invokevirtual 30, 3) ∧ decode b_Collator_mergeOn 84 = .ok (.invokevirtual 34, 3) ∧ decode b_Collator_mergeOn 87 = .ok (.iinc 7 1, 3) ∧ decode b_Collator_mergeOn 90 = .ok (.iinc 8 1, 3) ∧ decode b_Collator_mergeOn 93 = .ok (.goto (-60), 3) ∧ decode b_Collator_mergeOn 96 = .ok (.aload_n 2, 1) ∧ decode b_Collator_mergeOn 97 = .ok (.iconst 0, 1) ∧ decode b_Collator_mergeOn 98 = .ok (.putfield 19, 3) ∧ decode b_Collator_mergeOn 101 = .ok (.aload_n 1, 1) ∧ decode b_Collator_mergeOn 102 = .ok (.aload_n 0, 1) ∧ decode b_Collator_mergeOn 103 = .ok (.getfield 10, 3) ∧ decode b_Collator_mergeOn 106 = .ok (.invokevirtual 38, 3) ∧ decode b_Collator_mergeOn 109 = .ok (.iload 5, 2) ∧ decode b_Collator_mergeOn 111 = .ok (.ireturn, 1) := ⟨by decide +kernel, by decide +kernel, by decide +kernel, by decide +kernel, by decide +kernel, by decide +kernel, by decide +kernel, by decide +kernel, by decide +kernel, by decide +kernel, by decide +kernel, by decide +kernel, by decide +kernel, by decide +kernel, by decide +kernel, by decide +kernel, by decide +kernel, by decide +kernel, by decide +kernel, by decide +kernel, by decide +kernel, by decide +kernel, by decide +kernel, by decide +kernel, by decide +kernel, by decide +kernel, by decide +kernel, by decide +kernel, by decide +kernel, by decide +kernel, by decide +kernel, by decide +kernel, by decide +kernel, by decide +kernel, by decide +kernel, by decide +kernel, by decide +kernel, by decide +kernel, by decide +kernel, by decide +kernel, by decide +kernel, by decide +kernel, by decide +kernel, by decide +kernel, by decide +kernel, by decide +kernel, by decide +kernel, by decide +kernel, by decide +kernel, by decide +kernel, by decide +kernel, by decide +kernel, by decide +kernel, by decide +kernel, by decide +kernel, by decide +kernel⟩
theorem v_Collator_mergeOn : Cond.instanceMethod y_Collator_mergeOn ∈ nm_Ts ∧ Cond.selects y_Collator_mergeOn.cls y_Collator_mergeOn y_Collator_mergeOn ∈ nm_Ts ∧ Cond.initialized y_Collator_mergeOn.cls ∈ nm_Ts ∧ Cond.code y_Collator_mergeOn b_Collator_mergeOn 9 (some .int) ∈ nm_Ts ∧ mz_cl1 y_Collator_mergeOn 4 := ⟨nm_t3 23 rfl rfl, nm_t3 24 rfl rfl, nm_t1 4 rfl rfl, nm_t3 25 rfl rfl, by decide +kernel⟩
def y_Collator_orderOf : MethodName := ⟨"CardOffice$Collator", "orderOf", "(LCardOffice$Deck;ILCardOffice$Deck;III)I"⟩
abbrev b_Collator_orderOf : ByteArray := prog_4_method_4_code
def r_Collator_orderOf (c s : Nat) : Room := { frames := 4, cells := c, slots := s, locals := 84 }
theorem d_Collator_orderOf : decode b_Collator_orderOf 0 = .ok (.iload_n 3, 1) ∧ decode b_Collator_orderOf 1 = .ok (.aload_n 2, 1) ∧ decode b_Collator_orderOf 2 = .ok (.getfield 19, 3) ∧ decode b_Collator_orderOf 5 = .ok (.if_icmp .lt 5, 3) ∧ decode b_Collator_orderOf 8 = .ok (.iconst (-1), 1) ∧ decode b_Collator_orderOf 9 = .ok (.ireturn, 1) ∧ decode b_Collator_orderOf 10 = .ok (.iload_n 1, 1) ∧ decode b_Collator_orderOf 11 = .ok (.aload_n 0, 1) ∧ decode b_Collator_orderOf 12 = .ok (.getfield 19, 3) ∧ decode b_Collator_orderOf 15 = .ok (.if_icmp .lt 5, 3) ∧ decode b_Collator_orderOf 18 = .ok (.iconst 1, 1) ∧ decode b_Collator_orderOf 19 = .ok (.ireturn, 1) ∧ decode b_Collator_orderOf 20 = .ok (.aload_n 0, 1) ∧ decode b_Collator_orderOf 21 = .ok (.iload_n 1, 1) ∧ decode b_Collator_orderOf 22 = .ok (.invokevirtual 30, 3) ∧ decode b_Collator_orderOf 25 = .ok (.aload_n 2, 1) ∧ decode b_Collator_orderOf 26 = .ok (.iload_n 3, 1) ∧ decode b_Collator_orderOf 27 = .ok (.invokevirtual 30, 3) ∧ decode b_Collator_orderOf 30 = .ok (.iload 4, 2) ∧ decode b_Collator_orderOf 32 = .ok (.iload 5, 2) ∧ decode b_Collator_orderOf 34 = .ok (.invokevirtual 42, 3) ∧ decode b_Collator_orderOf 37 = .ok (.ireturn, 1) := ⟨by decide +kernel, by decide +kernel, by decide +kernel, by decide +kernel, by decide +kernel, by decide +kernel, by decide +kernel, by decide +kernel, by decide +kernel, by decide +kernel, by decide +kernel, by decide +kernel, by decide +kernel, by decide +kernel, by decide +kernel, by decide +kernel, by decide +kernel, by decide +kernel, by decide +kernel, by decide +kernel, by decide +kernel, by decide +kernel⟩
theorem s_Collator_orderOf : Cond.static y_Collator_orderOf ∈ nm_Ts ∧ Cond.initialized y_Collator_orderOf.cls ∈ nm_Ts ∧ Cond.code y_Collator_orderOf b_Collator_orderOf 6 (some .int) ∈ nm_Ts ∧ mz_cl1 y_Collator_orderOf 6 := ⟨nm_t3 27 rfl rfl, nm_t1 4 rfl rfl, nm_t3 28 rfl rfl, by decide +kernel⟩
def y_Deck_takeAllOf : MethodName := ⟨"CardOffice$Deck", "takeAllOf", "(LCardOffice$Deck;)V"⟩
abbrev b_Deck_takeAllOf : ByteArray := prog_5_method_4_code
def r_Deck_takeAllOf (c s : Nat) : Room := { frames := 0, cells := c, slots := s, locals := 0 }
theorem d_Deck_takeAllOf : decode b_Deck_takeAllOf 0 = .ok (.iconst 0, 1) ∧ decode b_Deck_takeAllOf 1 = .ok (.istore_n 2, 1) ∧ decode b_Deck_takeAllOf 2 = .ok (.iload_n 2, 1) ∧ decode b_Deck_takeAllOf 3 = .ok (.aload_n 1, 1) ∧ decode b_Deck_takeAllOf 4 = .ok (.getfield 17, 3) ∧ decode b_Deck_takeAllOf 7 = .ok (.if_icmp .ge 21, 3) ∧ decode b_Deck_takeAllOf 10 = .ok (.aload_n 0, 1) ∧ decode b_Deck_takeAllOf 11 = .ok (.getfield 11, 3) ∧ decode b_Deck_takeAllOf 14 = .ok (.iload_n 2, 1) ∧ decode b_Deck_takeAllOf 15 = .ok (.aload_n 1, 1) ∧ decode b_Deck_takeAllOf 16 = .ok (.getfield 11, 3) ∧ decode b_Deck_takeAllOf 19 = .ok (.iload_n 2, 1) ∧ decode b_Deck_takeAllOf 20 = .ok (.aaload, 1) ∧ decode b_Deck_takeAllOf 21 = .ok (.aastore, 1) ∧ decode b_Deck_takeAllOf 22 = .ok (.iinc 2 1, 3) ∧ decode b_Deck_takeAllOf 25 = .ok (.goto (-23), 3) ∧ decode b_Deck_takeAllOf 28 = .ok (.aload_n 0, 1) ∧ decode b_Deck_takeAllOf 29 = .ok (.aload_n 1, 1) ∧ decode b_Deck_takeAllOf 30 = .ok (.getfield 17, 3) ∧ decode b_Deck_takeAllOf 33 = .ok (.putfield 17, 3) ∧ decode b_Deck_takeAllOf 36 = .ok (.aload_n 1, 1) ∧ decode b_Deck_takeAllOf 37 = .ok (.iconst 0, 1) ∧ decode b_Deck_takeAllOf 38 = .ok (.putfield 17, 3) ∧ decode b_Deck_takeAllOf 41 = .ok (.return_, 1) := ⟨by decide +kernel, by decide +kernel, by decide +kernel, by decide +kernel, by decide +kernel, by decide +kernel, by decide +kernel, by decide +kernel, by decide +kernel, by decide +kernel, by decide +kernel, by decide +kernel, by decide +kernel, by decide +kernel, by decide +kernel, by decide +kernel, by decide +kernel, by decide +kernel, by decide +kernel, by decide +kernel, by decide +kernel, by decide +kernel, by decide +kernel, by decide +kernel⟩
theorem v_Deck_takeAllOf : Cond.instanceMethod y_Deck_takeAllOf ∈ nm_Ts ∧ Cond.selects y_Deck_takeAllOf.cls y_Deck_takeAllOf y_Deck_takeAllOf ∈ nm_Ts ∧ Cond.initialized y_Deck_takeAllOf.cls ∈ nm_Ts ∧ Cond.code y_Deck_takeAllOf b_Deck_takeAllOf 3 none ∈ nm_Ts ∧ mz_cl1 y_Deck_takeAllOf 1 := ⟨nm_t3 33 rfl rfl, nm_t3 34 rfl rfl, nm_t1 5 rfl rfl, nm_t3 35 rfl rfl, by decide +kernel⟩
def y_Office_match : MethodName := ⟨"CardOffice", "match", "(IIIII)I"⟩
abbrev b_Office_match : ByteArray := prog_1_method_9_code
def r_Office_match (c s : Nat) : Room := { frames := 7, cells := c, slots := s, locals := 143 }
theorem d_Office_match : decode b_Office_match 0 = .ok (.iload_n 1, 1) ∧ decode b_Office_match 1 = .ok (.iload_n 2, 1) ∧ decode b_Office_match 2 = .ok (.invokestatic 129, 3) ∧ decode b_Office_match 5 = .ok (.ifCond .eq 29, 3) ∧ decode b_Office_match 8 = .ok (.iload_n 1, 1) ∧ decode b_Office_match 9 = .ok (.iload_n 3, 1) ∧ decode b_Office_match 10 = .ok (.invokestatic 129, 3) ∧ decode b_Office_match 13 = .ok (.ifCond .eq 21, 3) ∧ decode b_Office_match 16 = .ok (.iload_n 2, 1) ∧ decode b_Office_match 17 = .ok (.iload_n 3, 1) ∧ decode b_Office_match 18 = .ok (.invokestatic 129, 3) ∧ decode b_Office_match 21 = .ok (.ifCond .eq 13, 3) ∧ decode b_Office_match 24 = .ok (.iload 4, 2) ∧ decode b_Office_match 26 = .ok (.iload 5, 2) ∧ decode b_Office_match 28 = .ok (.invokestatic 120, 3) ∧ decode b_Office_match 31 = .ok (.ifCond .ne 13, 3) ∧ decode b_Office_match 34 = .ok (.new 109, 3) ∧ decode b_Office_match 37 = .ok (.dup, 1) ∧ decode b_Office_match 38 = .ok (.ldc 146, 2) ∧ decode b_Office_match 40 = .ok (.invokespecial 113, 3) ∧ decode b_Office_match 43 = .ok (.athrow, 1) ∧ decode b_Office_match 44 = .ok (.aload_n 0, 1) ∧ decode b_Office_match 45 = .ok (.getfield 11, 3) ∧ decode b_Office_match 48 = .ok (.iload_n 1, 1) ∧ decode b_Office_match 49 = .ok (.aaload, 1) ∧ decode b_Office_match 50 = .ok (.iload 4, 2) ∧ decode b_Office_match 52 = .ok (.iload 5, 2) ∧ decode b_Office_match 54 = .ok (.invokevirtual 134, 3) ∧ decode b_Office_match 57 = .ok (.ifCond .eq 19, 3) ∧ decode b_Office_match 60 = .ok (.aload_n 0, 1) ∧ decode b_Office_match 61 = .ok (.getfield 11, 3) ∧ decode b_Office_match 64 = .ok (.iload_n 2, 1) ∧ decode b_Office_match 65 = .ok (.aaload, 1) ∧ decode b_Office_match 66 = .ok (.iload 4, 2) ∧ decode b_Office_match 68 = .ok (.iload 5, 2) ∧ decode b_Office_match 70 = .ok (.invokevirtual 134, 3) ∧ decode b_Office_match 73 = .ok (.ifCond .ne 13, 3) ∧ decode b_Office_match 76 = .ok (.new 137, 3) ∧ decode b_Office_match 79 = .ok (.dup, 1) ∧ decode b_Office_match 80 = .ok (.ldc 139, 2) ∧ decode b_Office_match 82 = .ok (.invokespecial 141, 3) ∧ decode b_Office_match 85 = .ok (.athrow, 1) ∧ decode b_Office_match 86 = .ok (.aload_n 0, 1) ∧ decode b_Office_match 87 = .ok (.getfield 42, 3) ∧ decode b_Office_match 90 = .ok (.aload_n 0, 1) ∧ decode b_Office_match 91 = .ok (.getfield 11, 3) ∧ decode b_Office_match 94 = .ok (.iload_n 1, 1) ∧ decode b_Office_match 95 = .ok (.aaload, 1) ∧ decode b_Office_match 96 = .ok (.aload_n 0, 1) ∧ decode b_Office_match 97 = .ok (.getfield 11, 3) ∧ decode b_Office_match 100 = .ok (.iload_n 2, 1) ∧ decode b_Office_match 101 = .ok (.aaload, 1) ∧ decode b_Office_match 102 = .ok (.aload_n 0, 1) ∧ decode b_Office_match 103 = .ok (.getfield 11, 3) ∧ decode b_Office_match 106 = .ok (.iload_n 3, 1) ∧ decode b_Office_match 107 = .ok (.aaload, 1) ∧ decode b_Office_match 108 = .ok (.iload 4, 2) ∧ decode b_Office_match 110 = .ok (.iload 5, 2) ∧ decode b_Office_match 112 = .ok (.invokevirtual 148, 3) ∧ decode b_Office_match 115 = .ok (.ireturn, 1) := ⟨by decide +kernel, by decide +kernel, by decide +kernel, by decide +kernel, by decide +kernel, by decide +kernel, by decide +kernel, by decide +kernel, by decide +kernel, by decide +kernel, by decide +kernel, by decide +kernel, by decide +kernel, by decide +kernel, by decide +kernel, by decide +kernel, by decide +kernel, by decide +kernel, by decide +kernel, by decide +kernel, by decide +kernel, by decide +kernel, by decide +kernel, by decide +kernel, by decide +kernel, by decide +kernel, by decide +kernel, by decide +kernel, by decide +kernel, by decide +kernel, by decide +kernel, by decide +kernel, by decide +kernel, by decide +kernel, by decide +kernel, by decide +kernel, by decide +kernel, by decide +kernel, by decide +kernel, by decide +kernel, by decide +kernel, by decide +kernel, by decide +kernel, by decide +kernel, by decide +kernel, by decide +kernel, by decide +kernel, by decide +kernel, by decide +kernel, by decide +kernel, by decide +kernel, by decide +kernel, by decide +kernel, by decide +kernel, by decide +kernel, by decide +kernel, by decide +kernel, by decide +kernel, by decide +kernel, by decide +kernel⟩
theorem v_Office_match : Cond.instanceMethod y_Office_match ∈ nm_Ts ∧ Cond.selects y_Office_match.cls y_Office_match y_Office_match ∈ nm_Ts ∧ Cond.initialized y_Office_match.cls ∈ nm_Ts ∧ Cond.code y_Office_match b_Office_match 6 (some .int) ∈ nm_Ts ∧ mz_cl1 y_Office_match 5 := ⟨nm_t3 40 rfl rfl, nm_t3 41 rfl rfl, nm_t1 1 rfl rfl, nm_t3 42 rfl rfl, by decide +kernel⟩
def y_Collator_matchOn : MethodName := ⟨"CardOffice$Collator", "matchOn", "(LCardOffice$Deck;LCardOffice$Deck;LCardOffice$Deck;II)I"⟩
abbrev b_Collator_matchOn : ByteArray := prog_4_method_3_code
def r_Collator_matchOn (c s : Nat) : Room := { frames := 5, cells := c, slots := s, locals := 109 }
theorem d_Collator_matchOn : decode b_Collator_matchOn 0 = .ok (.aload_n 1, 1) ∧ decode b_Collator_matchOn 1 = .ok (.getfield 19, 3) ∧ decode b_Collator_matchOn 4 = .ok (.aload_n 2, 1) ∧ decode b_Collator_matchOn 5 = .ok (.getfield 19, 3) ∧ decode b_Collator_matchOn 8 = .ok (.iadd, 1) ∧ decode b_Collator_matchOn 9 = .ok (.istore 6, 2) ∧ decode b_Collator_matchOn 11 = .ok (.aload_n 3, 1) ∧ decode b_Collator_matchOn 12 = .ok (.getfield 19, 3) ∧ decode b_Collator_matchOn 15 = .ok (.istore 7, 2) ∧ decode b_Collator_matchOn 17 = .ok (.iconst 0, 1) ∧ decode b_Collator_matchOn 18 = .ok (.istore 8, 2) ∧ decode b_Collator_matchOn 20 = .ok (.iconst 0, 1) ∧ decode b_Collator_matchOn 21 = .ok (.istore 9, 2) ∧ decode b_Collator_matchOn 23 = .ok (.aconst_null, 1) ∧ decode b_Collator_matchOn 24 = .ok (.astore 10, 2) ∧ decode b_Collator_matchOn 26 = .ok (.iconst 0, 1) ∧ decode b_Collator_matchOn 27 = .ok (.istore 11, 2) ∧ decode b_Collator_matchOn 29 = .ok (.iload 11, 2) ∧ decode b_Collator_matchOn 31 = .ok (.iload 6, 2) ∧ decode b_Collator_matchOn 33 = .ok (.if_icmp .ge 138, 3) ∧ decode b_Collator_matchOn 36 = .ok (.aload_n 1, 1) ∧ decode b_Collator_matchOn 37 = .ok (.iload 8, 2) ∧ decode b_Collator_matchOn 39 = .ok (.aload_n 2, 1) ∧ decode b_Collator_matchOn 40 = .ok (.iload 9, 2) ∧ decode b_Collator_matchOn 42 = .ok (.iload 4, 2) ∧ decode b_Collator_matchOn 44 = .ok (.iload 5, 2) ∧ decode b_Collator_matchOn 46 = .ok (.invokestatic 26, 3) ∧ decode b_Collator_matchOn 49 = .ok (.istore 12, 2) ∧ decode b_Collator_matchOn 51 = .ok (.iload 12, 2) ∧ decode b_Collator_matchOn 53 = .ok (.ifCond .gt 53, 3) ∧ decode b_Collator_matchOn 56 = .ok (.iload 12, 2) ∧ decode b_Collator_matchOn 58 = .ok (.ifCond .ne 12, 3) ∧ decode b_Collator_matchOn 61 = .ok (.aload_n 1, 1) ∧ decode b_Collator_matchOn 62 = .ok (.iload 8, 2) ∧ decode b_Collator_matchOn 64 = .ok (.invokevirtual 30, 3) ∧ decode b_Collator_matchOn 67 = .ok (.goto 5, 3) ∧ decode b_Collator_matchOn 70 = .ok (.aload 10, 2) ∧ decode b_Collator_matchOn 72 = .ok (.astore 10, 2) ∧ decode b_Collator_matchOn 74 = .ok (.iload 12, 2) ∧ decode b_Collator_matchOn 76 = .ok (.ifCond .ne 7, 3) ∧ decode b_Collator_matchOn 79 = .ok (.aload_n 3, 1) ∧ decode b_Collator_matchOn 80 = .ok (.goto 7, 3) ∧ decode b_Collator_matchOn 83 = .ok (.aload_n 0, 1) ∧ decode b_Collator_matchOn 84 = .ok (.getfield 10, 3) ∧ decode b_Collator_matchOn 87 = .ok (.astore 13, 2) ∧ decode b_Collator_matchOn 89 = .ok (.aload 13, 2) ∧ decode b_Collator_matchOn 91 = .ok (.aload_n 1, 1) ∧ decode b_Collator_matchOn 92 = .ok (.iload 8, 2) ∧ decode b_Collator_matchOn 94 = .ok (.invokevirtual 30, 3) ∧ decode b_Collator_matchOn 97 = .ok (.invokevirtual 34, 3) ∧ decode b_Collator_matchOn 100 = .ok (.iinc 8 1, 3) ∧ decode b_Collator_matchOn 103 = .ok (.goto 62, 3) ∧ decode b_Collator_matchOn 106 = .ok (.aload 10, 2) ∧ decode b_Collator_matchOn 108 = .ok (.ifnull 25, 3) ∧ decode b_Collator_matchOn 111 = .ok (.aload_n 2, 1) ∧ decode b_Collator_matchOn 112 = .ok (.iload 9, 2) ∧ decode b_Collator_matchOn 114 = .ok (.invokevirtual 30, 3) ∧ decode b_Collator_matchOn 117 = .ok (.aload 10, 2) ∧ decode b_Collator_matchOn 119 = .ok (.iload 4, 2) ∧ decode b_Collator_matchOn 121 = .ok (.iload 5, 2) ∧ decode b_Collator_matchOn 123 = .ok (.invokevirtual 42, 3) ∧ decode b_Collator_matchOn 126 = .ok (.ifCond .ne 7, 3) ∧ decode b_Collator_matchOn 129 = .ok (.iconst 1, 1) ∧ decode b_Collator_matchOn 130 = .ok (.goto 4, 3) ∧ decode b_Collator_matchOn 133 = .ok (.iconst 0, 1) ∧ decode b_Collator_matchOn 134 = .ok (.istore 13, 2) ∧ decode b_Collator_matchOn 136 = .ok (.iload 13, 2) ∧ decode b_Collator_matchOn 138 = .ok (.ifCond .eq 7, 3) ∧ decode b_Collator_matchOn 141 = .ok (.aload_n 3, 1) ∧ decode b_Collator_matchOn 142 = .ok (.goto 7, 3) ∧ decode b_Collator_matchOn 145 = .ok (.aload_n 0, 1) ∧ decode b_Collator_matchOn 146 = .ok (.getfield 16, 3) ∧ decode b_Collator_matchOn 149 = .ok (.astore 14, 2) ∧ decode b_Collator_matchOn 151 = .ok (.aload 14, 2) ∧ decode b_Collator_matchOn 153 = .ok (.aload_n 2, 1) ∧ decode b_Collator_matchOn 154 = .ok (.iload 9, 2) ∧ decode b_Collator_matchOn 156 = .ok (.invokevirtual 30, 3) ∧ decode b_Collator_matchOn 159 = .ok (.invokevirtual 34, 3) ∧ decode b_Collator_matchOn 162 = .ok (.iinc 9 1, 3) ∧ decode b_Collator_matchOn 165 = .ok (.iinc 11 1, 3) ∧ decode b_Collator_matchOn 168 = .ok (.goto (-139), 3) ∧ decode b_Collator_matchOn 171 = .ok (.aload_n 1, 1) ∧ decode b_Collator_matchOn 172 = .ok (.aload_n 0, 1) ∧ decode b_Collator_matchOn 173 = .ok (.getfield 10, 3) ∧ decode b_Collator_matchOn 176 = .ok (.invokevirtual 38, 3) ∧ decode b_Collator_matchOn 179 = .ok (.aload_n 2, 1) ∧ decode b_Collator_matchOn 180 = .ok (.aload_n 0, 1) ∧ decode b_Collator_matchOn 181 = .ok (.getfield 16, 3) ∧ decode b_Collator_matchOn 184 = .ok (.invokevirtual 38, 3) ∧ decode b_Collator_matchOn 187 = .ok (.aload_n 0, 1) ∧ decode b_Collator_matchOn 188 = .ok (.dup, 1) ∧ decode b_Collator_matchOn 189 = .ok (.getfield 23, 3) ∧ decode b_Collator_matchOn 192 = .ok (.aload_n 3, 1) ∧ decode b_Collator_matchOn 193 = .ok (.getfield 19, 3) ∧ decode b_Collator_matchOn 196 = .ok (.iload 7, 2) ∧ decode b_Collator_matchOn 198 = .ok (.isub, 1) ∧ decode b_Collator_matchOn 199 = .ok (.iadd, 1) ∧ decode b_Collator_matchOn 200 = .ok (.putfield 23, 3) ∧ decode b_Collator_matchOn 203 = .ok (.aload_n 3, 1) ∧ decode b_Collator_matchOn 204 = .ok (.getfield 19, 3) ∧ decode b_Collator_matchOn 207 = .ok (.iload 7, 2) ∧ decode b_Collator_matchOn 209 = .ok (.isub, 1) ∧ decode b_Collator_matchOn 210 = .ok (.ireturn, 1) := ⟨by decide +kernel, by decide +kernel, by decide +kernel, by decide +kernel, by decide +kernel, by decide +kernel, by decide +kernel, by decide +kernel, by decide +kernel, by decide +kernel, by decide +kernel, by decide +kernel, by decide +kernel, by decide +kernel, by decide +kernel, by decide +kernel, by decide +kernel, by decide +kernel, by decide +kernel, by decide +kernel, by decide +kernel, by decide +kernel, by decide +kernel, by decide +kernel, by decide +kernel, by decide +kernel, by decide +kernel, by decide +kernel, by decide +kernel, by decide +kernel, by decide +kernel, by decide +kernel, by decide +kernel, by decide +kernel, by decide +kernel, by decide +kernel, by decide +kernel, by decide +kernel, by decide +kernel, by decide +kernel, by decide +kernel, by decide +kernel, by decide +kernel, by decide +kernel, by decide +kernel, by decide +kernel, by decide +kernel, by decide +kernel, by decide +kernel, by decide +kernel, by decide +kernel, by decide +kernel, by decide +kernel, by decide +kernel, by decide +kernel, by decide +kernel, by decide +kernel, by decide +kernel, by decide +kernel, by decide +kernel, by decide +kernel, by decide +kernel, by decide +kernel, by decide +kernel, by decide +kernel, by decide +kernel, by decide +kernel, by decide +kernel, by decide +kernel, by decide +kernel, by decide +kernel, by decide +kernel, by decide +kernel, by decide +kernel, by decide +kernel, by decide +kernel, by decide +kernel, by decide +kernel, by decide +kernel, by decide +kernel, by decide +kernel, by decide +kernel, by decide +kernel, by decide +kernel, by decide +kernel, by decide +kernel, by decide +kernel, by decide +kernel, by decide +kernel, by decide +kernel, by decide +kernel, by decide +kernel, by decide +kernel, by decide +kernel, by decide +kernel, by decide +kernel, by decide +kernel, by decide +kernel, by decide +kernel, by decide +kernel, by decide +kernel, by decide +kernel, by decide +kernel⟩
theorem v_Collator_matchOn : Cond.instanceMethod y_Collator_matchOn ∈ nm_Ts ∧ Cond.selects y_Collator_matchOn.cls y_Collator_matchOn y_Collator_matchOn ∈ nm_Ts ∧ Cond.initialized y_Collator_matchOn.cls ∈ nm_Ts ∧ Cond.code y_Collator_matchOn b_Collator_matchOn 15 (some .int) ∈ nm_Ts ∧ mz_cl1 y_Collator_matchOn 5 := ⟨nm_t3 45 rfl rfl, nm_t3 46 rfl rfl, nm_t1 4 rfl rfl, nm_t3 47 rfl rfl, by decide +kernel⟩
def y_Office_reproduce : MethodName := ⟨"CardOffice", "reproduce", "(III)I"⟩
abbrev b_Office_reproduce : ByteArray := prog_1_method_10_code
def r_Office_reproduce (c s : Nat) : Room := { frames := 7, cells := c, slots := s, locals := 92 }
theorem d_Office_reproduce : decode b_Office_reproduce 0 = .ok (.iload_n 1, 1) ∧ decode b_Office_reproduce 1 = .ok (.invokestatic 84, 3) ∧ decode b_Office_reproduce 4 = .ok (.ifCond .eq 11, 3) ∧ decode b_Office_reproduce 7 = .ok (.iload_n 2, 1) ∧ decode b_Office_reproduce 8 = .ok (.iload_n 3, 1) ∧ decode b_Office_reproduce 9 = .ok (.invokestatic 129, 3) ∧ decode b_Office_reproduce 12 = .ok (.ifCond .ne 13, 3) ∧ decode b_Office_reproduce 15 = .ok (.new 109, 3) ∧ decode b_Office_reproduce 18 = .ok (.dup, 1) ∧ decode b_Office_reproduce 19 = .ok (.ldc 152, 2) ∧ decode b_Office_reproduce 21 = .ok (.invokespecial 113, 3) ∧ decode b_Office_reproduce 24 = .ok (.athrow, 1) ∧ decode b_Office_reproduce 25 = .ok (.aload_n 0, 1) ∧ decode b_Office_reproduce 26 = .ok (.getfield 49, 3) ∧ decode b_Office_reproduce 29 = .ok (.aload_n 0, 1) ∧ decode b_Office_reproduce 30 = .ok (.getfield 17, 3) ∧ decode b_Office_reproduce 33 = .ok (.iload_n 1, 1) ∧ decode b_Office_reproduce 34 = .ok (.aaload, 1) ∧ decode b_Office_reproduce 35 = .ok (.aload_n 0, 1) ∧ decode b_Office_reproduce 36 = .ok (.getfield 11, 3) ∧ decode b_Office_reproduce 39 = .ok (.iload_n 2, 1) ∧ decode b_Office_reproduce 40 = .ok (.aaload, 1) ∧ decode b_Office_reproduce 41 = .ok (.aload_n 0, 1) ∧ decode b_Office_reproduce 42 = .ok (.getfield 11, 3) ∧ decode b_Office_reproduce 45 = .ok (.iload_n 3, 1) ∧ decode b_Office_reproduce 46 = .ok (.aaload, 1) ∧ decode b_Office_reproduce 47 = .ok (.sipush 200, 3) ∧ decode b_Office_reproduce 50 = .ok (.aload_n 0, 1) ∧ decode b_Office_reproduce 51 = .ok (.invokevirtual 66, 3) ∧ decode b_Office_reproduce 54 = .ok (.isub, 1) ∧ decode b_Office_reproduce 55 = .ok (.aload_n 0, 1) ∧ decode b_Office_reproduce 56 = .ok (.getfield 28, 3) ∧ decode b_Office_reproduce 59 = .ok (.invokevirtual 154, 3) ∧ decode b_Office_reproduce 62 = .ok (.ireturn, 1) := ⟨by decide +kernel, by decide +kernel, by decide +kernel, by decide +kernel, by decide +kernel, by decide +kernel, by decide +kernel, by decide +kernel, by decide +kernel, by decide +kernel, by decide +kernel, by decide +kernel, by decide +kernel, by decide +kernel, by decide +kernel, by decide +kernel, by decide +kernel, by decide +kernel, by decide +kernel, by decide +kernel, by decide +kernel, by decide +kernel, by decide +kernel, by decide +kernel, by decide +kernel, by decide +kernel, by decide +kernel, by decide +kernel, by decide +kernel, by decide +kernel, by decide +kernel, by decide +kernel, by decide +kernel, by decide +kernel⟩
theorem v_Office_reproduce : Cond.instanceMethod y_Office_reproduce ∈ nm_Ts ∧ Cond.selects y_Office_reproduce.cls y_Office_reproduce y_Office_reproduce ∈ nm_Ts ∧ Cond.initialized y_Office_reproduce.cls ∈ nm_Ts ∧ Cond.code y_Office_reproduce b_Office_reproduce 4 (some .int) ∈ nm_Ts ∧ mz_cl1 y_Office_reproduce 3 := ⟨nm_t3 52 rfl rfl, nm_t3 53 rfl rfl, nm_t1 1 rfl rfl, nm_t3 54 rfl rfl, by decide +kernel⟩
def y_Reproducer_copyDeck : MethodName := ⟨"CardOffice$Reproducer", "copyDeck", "(LCardOffice$Board;LCardOffice$Deck;LCardOffice$Deck;ILCardOffice$FaultLight;)I"⟩
abbrev b_Reproducer_copyDeck : ByteArray := prog_10_method_2_code
def r_Reproducer_copyDeck (c s : Nat) : Room := { frames := 3, cells := c, slots := s, locals := 66 }
theorem d_Reproducer_copyDeck : decode b_Reproducer_copyDeck 0 = .ok (.iconst 0, 1) ∧ decode b_Reproducer_copyDeck 1 = .ok (.istore 6, 2) ∧ decode b_Reproducer_copyDeck 3 = .ok (.iload 6, 2) ∧ decode b_Reproducer_copyDeck 5 = .ok (.aload_n 2, 1) ∧ decode b_Reproducer_copyDeck 6 = .ok (.getfield 20, 3) ∧ decode b_Reproducer_copyDeck 9 = .ok (.if_icmp .ge 66, 3) ∧ decode b_Reproducer_copyDeck 12 = .ok (.aload_n 1, 1) ∧ decode b_Reproducer_copyDeck 13 = .ok (.aload_n 2, 1) ∧ decode b_Reproducer_copyDeck 14 = .ok (.iload 6, 2) ∧ decode b_Reproducer_copyDeck 16 = .ok (.invokevirtual 26, 3) ∧ decode b_Reproducer_copyDeck 19 = .ok (.aload_n 0, 1) ∧ decode b_Reproducer_copyDeck 20 = .ok (.getfield 14, 3) ∧ decode b_Reproducer_copyDeck 23 = .ok (.invokevirtual 30, 3) ∧ decode b_Reproducer_copyDeck 26 = .ok (.aload_n 0, 1) ∧ decode b_Reproducer_copyDeck 27 = .ok (.getfield 14, 3) ∧ decode b_Reproducer_copyDeck 30 = .ok (.getfield 36, 3) ∧ decode b_Reproducer_copyDeck 33 = .ok (.ifCond .eq 12, 3) ∧ decode b_Reproducer_copyDeck 36 = .ok (.aload 5, 2) ∧ decode b_Reproducer_copyDeck 38 = .ok (.iconst 2, 1) ∧ decode b_Reproducer_copyDeck 39 = .ok (.iload 6, 2) ∧ decode b_Reproducer_copyDeck 41 = .ok (.invokevirtual 40, 3) ∧ decode b_Reproducer_copyDeck 44 = .ok (.ireturn, 1) ∧ decode b_Reproducer_copyDeck 45 = .ok (.iload 6, 2) ∧ decode b_Reproducer_copyDeck 47 = .ok (.iload 4, 2) ∧ decode b_Reproducer_copyDeck 49 = .ok (.if_icmp .lt 12, 3) ∧ decode b_Reproducer_copyDeck 52 = .ok (.aload 5, 2) ∧ decode b_Reproducer_copyDeck 54 = .ok (.iconst 4, 1) ∧ decode b_Reproducer_copyDeck 55 = .ok (.iload 6, 2) ∧ decode b_Reproducer_copyDeck 57 = .ok (.invokevirtual 40, 3) ∧ decode b_Reproducer_copyDeck 60 = .ok (.ireturn, 1) ∧ decode b_Reproducer_copyDeck 61 = .ok (.aload_n 3, 1) ∧ decode b_Reproducer_copyDeck 62 = .ok (.aload_n 0, 1) ∧ decode b_Reproducer_copyDeck 63 = .ok (.invokevirtual 46, 3) ∧ decode b_Reproducer_copyDeck 66 = .ok (.invokevirtual 50, 3) ∧ decode b_Reproducer_copyDeck 69 = .ok (.iinc 6 1, 3) ∧ decode b_Reproducer_copyDeck 72 = .ok (.goto (-69), 3) ∧ decode b_Reproducer_copyDeck 75 = .ok (.aload 5, 2) ∧ decode b_Reproducer_copyDeck 77 = .ok (.aload_n 2, 1) ∧ decode b_Reproducer_copyDeck 78 = .ok (.getfield 20, 3) ∧ decode b_Reproducer_copyDeck 81 = .ok (.invokevirtual 54, 3) ∧ decode b_Reproducer_copyDeck 84 = .ok (.ireturn, 1) := ⟨by decide +kernel, by decide +kernel, by decide +kernel, by decide +kernel, by decide +kernel, by decide +kernel, by decide +kernel, by decide +kernel, by decide +kernel, by decide +kernel, by decide +kernel, by decide +kernel, by decide +kernel, by decide +kernel, by decide +kernel, by decide +kernel, by decide +kernel, by decide +kernel, by decide +kernel, by decide +kernel, by decide +kernel, by decide +kernel, by decide +kernel, by decide +kernel, by decide +kernel, by decide +kernel, by decide +kernel, by decide +kernel, by decide +kernel, by decide +kernel, by decide +kernel, by decide +kernel, by decide +kernel, by decide +kernel, by decide +kernel, by decide +kernel, by decide +kernel, by decide +kernel, by decide +kernel, by decide +kernel, by decide +kernel⟩
theorem v_Reproducer_copyDeck : Cond.instanceMethod y_Reproducer_copyDeck ∈ nm_Ts ∧ Cond.selects y_Reproducer_copyDeck.cls y_Reproducer_copyDeck y_Reproducer_copyDeck ∈ nm_Ts ∧ Cond.initialized y_Reproducer_copyDeck.cls ∈ nm_Ts ∧ Cond.code y_Reproducer_copyDeck b_Reproducer_copyDeck 7 (some .int) ∈ nm_Ts ∧ mz_cl1 y_Reproducer_copyDeck 5 := ⟨nm_t3 57 rfl rfl, nm_t3 58 rfl rfl, nm_t1 6 rfl rfl, nm_t3 59 rfl rfl, by decide +kernel⟩
def y_Board_bringFromCard : MethodName := ⟨"CardOffice$Board", "bringFromCard", "(LCardOffice$Card;LCardOffice$Jacks;)V"⟩
abbrev b_Board_bringFromCard : ByteArray := prog_2_method_7_code
def r_Board_bringFromCard (c s : Nat) : Room := { frames := 2, cells := c, slots := s, locals := 43 }
theorem d_Board_bringFromCard : decode b_Board_bringFromCard 0 = .ok (.aload_n 2, 1) ∧ decode b_Board_bringFromCard 1 = .ok (.invokevirtual 40, 3) ∧ decode b_Board_bringFromCard 4 = .ok (.iconst 0, 1) ∧ decode b_Board_bringFromCard 5 = .ok (.istore_n 3, 1) ∧ decode b_Board_bringFromCard 6 = .ok (.iload_n 3, 1) ∧ decode b_Board_bringFromCard 7 = .ok (.aload_n 0, 1) ∧ decode b_Board_bringFromCard 8 = .ok (.getfield 27, 3) ∧ decode b_Board_bringFromCard 11 = .ok (.if_icmp .ge 46, 3) ∧ decode b_Board_bringFromCard 14 = .ok (.aload_n 0, 1) ∧ decode b_Board_bringFromCard 15 = .ok (.iload_n 3, 1) ∧ decode b_Board_bringFromCard 16 = .ok (.invokevirtual 45, 3) ∧ decode b_Board_bringFromCard 19 = .ok (.ifCond .ne 32, 3) ∧ decode b_Board_bringFromCard 22 = .ok (.aload_n 2, 1) ∧ decode b_Board_bringFromCard 23 = .ok (.aload_n 0, 1) ∧ decode b_Board_bringFromCard 24 = .ok (.getfield 15, 3) ∧ decode b_Board_bringFromCard 27 = .ok (.iload_n 3, 1) ∧ decode b_Board_bringFromCard 28 = .ok (.iaload, 1) ∧ decode b_Board_bringFromCard 29 = .ok (.invokevirtual 49, 3) ∧ decode b_Board_bringFromCard 32 = .ok (.ifCond .eq 19, 3) ∧ decode b_Board_bringFromCard 35 = .ok (.aload_n 2, 1) ∧ decode b_Board_bringFromCard 36 = .ok (.aload_n 0, 1) ∧ decode b_Board_bringFromCard 37 = .ok (.getfield 15, 3) ∧ decode b_Board_bringFromCard 40 = .ok (.iload_n 3, 1) ∧ decode b_Board_bringFromCard 41 = .ok (.iaload, 1) ∧ decode b_Board_bringFromCard 42 = .ok (.aload_n 0, 1) ∧ decode b_Board_bringFromCard 43 = .ok (.iload_n 3, 1) ∧ decode b_Board_bringFromCard 44 = .ok (.aload_n 1, 1) ∧ decode b_Board_bringFromCard 45 = .ok (.invokevirtual 52, 3) ∧ decode b_Board_bringFromCard 48 = .ok (.invokevirtual 56, 3) ∧ decode b_Board_bringFromCard 51 = .ok (.iinc 3 1, 3) ∧ decode b_Board_bringFromCard 54 = .ok (.goto (-48), 3) ∧ decode b_Board_bringFromCard 57 = .ok (.return_, 1) := ⟨by decide +kernel, by decide +kernel, by decide +kernel, by decide +kernel, by decide +kernel, by decide +kernel, by decide +kernel, by decide +kernel, by decide +kernel, by decide +kernel, by decide +kernel, by decide +kernel, by decide +kernel, by decide +kernel, by decide +kernel, by decide +kernel, by decide +kernel, by decide +kernel, by decide +kernel, by decide +kernel, by decide +kernel, by decide +kernel, by decide +kernel, by decide +kernel, by decide +kernel, by decide +kernel, by decide +kernel, by decide +kernel, by decide +kernel, by decide +kernel, by decide +kernel, by decide +kernel⟩
theorem v_Board_bringFromCard : Cond.instanceMethod y_Board_bringFromCard ∈ nm_Ts ∧ Cond.selects y_Board_bringFromCard.cls y_Board_bringFromCard y_Board_bringFromCard ∈ nm_Ts ∧ Cond.initialized y_Board_bringFromCard.cls ∈ nm_Ts ∧ Cond.code y_Board_bringFromCard b_Board_bringFromCard 4 none ∈ nm_Ts ∧ mz_cl1 y_Board_bringFromCard 2 := ⟨nm_t3 62 rfl rfl, nm_t3 63 rfl rfl, nm_t1 10 rfl rfl, nm_t3 64 rfl rfl, by decide +kernel⟩
def y_Jacks_clear : MethodName := ⟨"CardOffice$Jacks", "clear", "()V"⟩
abbrev b_Jacks_clear : ByteArray := prog_7_method_2_code
def r_Jacks_clear (c s : Nat) : Room := { frames := 1, cells := c, slots := s, locals := 23 }
theorem d_Jacks_clear : decode b_Jacks_clear 0 = .ok (.aload_n 0, 1) ∧ decode b_Jacks_clear 1 = .ok (.getfield 15, 3) ∧ decode b_Jacks_clear 4 = .ok (.iconst (-1), 1) ∧ decode b_Jacks_clear 5 = .ok (.invokestatic 19, 3) ∧ decode b_Jacks_clear 8 = .ok (.aload_n 0, 1) ∧ decode b_Jacks_clear 9 = .ok (.iconst 0, 1) ∧ decode b_Jacks_clear 10 = .ok (.putfield 25, 3) ∧ decode b_Jacks_clear 13 = .ok (.return_, 1) := ⟨by decide +kernel, by decide +kernel, by decide +kernel, by decide +kernel, by decide +kernel, by decide +kernel, by decide +kernel, by decide +kernel⟩
theorem v_Jacks_clear : Cond.instanceMethod y_Jacks_clear ∈ nm_Ts ∧ Cond.selects y_Jacks_clear.cls y_Jacks_clear y_Jacks_clear ∈ nm_Ts ∧ Cond.initialized y_Jacks_clear.cls ∈ nm_Ts ∧ Cond.code y_Jacks_clear b_Jacks_clear 1 none ∈ nm_Ts ∧ mz_cl1 y_Jacks_clear 0 := ⟨nm_t3 66 rfl rfl, nm_t3 67 rfl rfl, nm_t1 7 rfl rfl, nm_t3 68 rfl rfl, by decide +kernel⟩
def y_Board_isFromExit : MethodName := ⟨"CardOffice$Board", "isFromExit", "(I)Z"⟩
abbrev b_Board_isFromExit : ByteArray := prog_2_method_5_code
def r_Board_isFromExit (c s : Nat) : Room := { frames := 0, cells := c, slots := s, locals := 0 }
theorem d_Board_isFromExit : decode b_Board_isFromExit 0 = .ok (.aload_n 0, 1) ∧ decode b_Board_isFromExit 1 = .ok (.getfield 9, 3) ∧ decode b_Board_isFromExit 4 = .ok (.iload_n 1, 1) ∧ decode b_Board_isFromExit 5 = .ok (.iaload, 1) ∧ decode b_Board_isFromExit 6 = .ok (.bipush 32, 2) ∧ decode b_Board_isFromExit 8 = .ok (.if_icmp .lt 7, 3) ∧ decode b_Board_isFromExit 11 = .ok (.iconst 1, 1) ∧ decode b_Board_isFromExit 12 = .ok (.goto 4, 3) ∧ decode b_Board_isFromExit 15 = .ok (.iconst 0, 1) ∧ decode b_Board_isFromExit 16 = .ok (.ireturn, 1) := ⟨by decide +kernel, by decide +kernel, by decide +kernel, by decide +kernel, by decide +kernel, by decide +kernel, by decide +kernel, by decide +kernel, by decide +kernel, by decide +kernel⟩
theorem v_Board_isFromExit : Cond.instanceMethod y_Board_isFromExit ∈ nm_Ts ∧ Cond.selects y_Board_isFromExit.cls y_Board_isFromExit y_Board_isFromExit ∈ nm_Ts ∧ Cond.initialized y_Board_isFromExit.cls ∈ nm_Ts ∧ Cond.code y_Board_isFromExit b_Board_isFromExit 2 (some .boolean) ∈ nm_Ts ∧ mz_cl1 y_Board_isFromExit 1 := ⟨nm_t3 72 rfl rfl, nm_s 6 rfl rfl, nm_t1 10 rfl rfl, nm_t3 73 rfl rfl, by decide +kernel⟩
def y_Jacks_hasJack : MethodName := ⟨"CardOffice$Jacks", "hasJack", "(I)Z"⟩
abbrev b_Jacks_hasJack : ByteArray := prog_7_method_3_code
def r_Jacks_hasJack (c s : Nat) : Room := { frames := 0, cells := c, slots := s, locals := 0 }
theorem d_Jacks_hasJack : decode b_Jacks_hasJack 0 = .ok (.iload_n 1, 1) ∧ decode b_Jacks_hasJack 1 = .ok (.aload_n 0, 1) ∧ decode b_Jacks_hasJack 2 = .ok (.getfield 9, 3) ∧ decode b_Jacks_hasJack 5 = .ok (.if_icmp .lt 21, 3) ∧ decode b_Jacks_hasJack 8 = .ok (.iload_n 1, 1) ∧ decode b_Jacks_hasJack 9 = .ok (.aload_n 0, 1) ∧ decode b_Jacks_hasJack 10 = .ok (.getfield 9, 3) ∧ decode b_Jacks_hasJack 13 = .ok (.aload_n 0, 1) ∧ decode b_Jacks_hasJack 14 = .ok (.getfield 15, 3) ∧ decode b_Jacks_hasJack 17 = .ok (.arraylength, 1) ∧ decode b_Jacks_hasJack 18 = .ok (.iadd, 1) ∧ decode b_Jacks_hasJack 19 = .ok (.if_icmp .ge 7, 3) ∧ decode b_Jacks_hasJack 22 = .ok (.iconst 1, 1) ∧ decode b_Jacks_hasJack 23 = .ok (.goto 4, 3) ∧ decode b_Jacks_hasJack 26 = .ok (.iconst 0, 1) ∧ decode b_Jacks_hasJack 27 = .ok (.ireturn, 1) := ⟨by decide +kernel, by decide +kernel, by decide +kernel, by decide +kernel, by decide +kernel, by decide +kernel, by decide +kernel, by decide +kernel, by decide +kernel, by decide +kernel, by decide +kernel, by decide +kernel, by decide +kernel, by decide +kernel, by decide +kernel, by decide +kernel⟩
theorem v_Jacks_hasJack : Cond.instanceMethod y_Jacks_hasJack ∈ nm_Ts ∧ Cond.selects y_Jacks_hasJack.cls y_Jacks_hasJack y_Jacks_hasJack ∈ nm_Ts ∧ Cond.initialized y_Jacks_hasJack.cls ∈ nm_Ts ∧ Cond.code y_Jacks_hasJack b_Jacks_hasJack 2 (some .boolean) ∈ nm_Ts ∧ mz_cl1 y_Jacks_hasJack 1 := ⟨nm_t3 75 rfl rfl, nm_t3 76 rfl rfl, nm_t1 7 rfl rfl, nm_t3 77 rfl rfl, by decide +kernel⟩
def y_Board_signFrom : MethodName := ⟨"CardOffice$Board", "signFrom", "(ILCardOffice$Card;)I"⟩
abbrev b_Board_signFrom : ByteArray := prog_2_method_6_code
def r_Board_signFrom (c s : Nat) : Room := { frames := 0, cells := c, slots := s, locals := 0 }
theorem d_Board_signFrom : decode b_Board_signFrom 0 = .ok (.aload_n 0, 1) ∧ decode b_Board_signFrom 1 = .ok (.getfield 9, 3) ∧ decode b_Board_signFrom 4 = .ok (.iload_n 1, 1) ∧ decode b_Board_signFrom 5 = .ok (.iaload, 1) ∧ decode b_Board_signFrom 6 = .ok (.bipush 16, 2) ∧ decode b_Board_signFrom 8 = .ok (.if_icmp .ge 17, 3) ∧ decode b_Board_signFrom 11 = .ok (.aload_n 2, 1) ∧ decode b_Board_signFrom 12 = .ok (.getfield 35, 3) ∧ decode b_Board_signFrom 15 = .ok (.aload_n 0, 1) ∧ decode b_Board_signFrom 16 = .ok (.getfield 9, 3) ∧ decode b_Board_signFrom 19 = .ok (.iload_n 1, 1) ∧ decode b_Board_signFrom 20 = .ok (.iaload, 1) ∧ decode b_Board_signFrom 21 = .ok (.iaload, 1) ∧ decode b_Board_signFrom 22 = .ok (.goto 15, 3) ∧ decode b_Board_signFrom 25 = .ok (.bipush 48, 2) ∧ decode b_Board_signFrom 27 = .ok (.aload_n 0, 1) ∧ decode b_Board_signFrom 28 = .ok (.getfield 9, 3) ∧ decode b_Board_signFrom 31 = .ok (.iload_n 1, 1) ∧ decode b_Board_signFrom 32 = .ok (.iaload, 1) ∧ decode b_Board_signFrom 33 = .ok (.iadd, 1) ∧ decode b_Board_signFrom 34 = .ok (.bipush 16, 2) ∧ decode b_Board_signFrom 36 = .ok (.isub, 1) ∧ decode b_Board_signFrom 37 = .ok (.ireturn, 1) := ⟨by decide +kernel, by decide +kernel, by decide +kernel, by decide +kernel, by decide +kernel, by decide +kernel, by decide +kernel, by decide +kernel, by decide +kernel, by decide +kernel, by decide +kernel, by decide +kernel, by decide +kernel, by decide +kernel, by decide +kernel, by decide +kernel, by decide +kernel, by decide +kernel, by decide +kernel, by decide +kernel, by decide +kernel, by decide +kernel, by decide +kernel⟩
theorem v_Board_signFrom : Cond.instanceMethod y_Board_signFrom ∈ nm_Ts ∧ Cond.selects y_Board_signFrom.cls y_Board_signFrom y_Board_signFrom ∈ nm_Ts ∧ Cond.initialized y_Board_signFrom.cls ∈ nm_Ts ∧ Cond.code y_Board_signFrom b_Board_signFrom 3 (some .int) ∈ nm_Ts ∧ mz_cl1 y_Board_signFrom 2 := ⟨nm_t3 80 rfl rfl, nm_s 7 rfl rfl, nm_t1 10 rfl rfl, nm_t3 81 rfl rfl, by decide +kernel⟩
def y_Jacks_bring : MethodName := ⟨"CardOffice$Jacks", "bring", "(II)V"⟩
abbrev b_Jacks_bring : ByteArray := prog_7_method_4_code
def r_Jacks_bring (c s : Nat) : Room := { frames := 0, cells := c, slots := s, locals := 0 }
theorem d_Jacks_bring : decode b_Jacks_bring 0 = .ok (.iload_n 1, 1) ∧ decode b_Jacks_bring 1 = .ok (.aload_n 0, 1) ∧ decode b_Jacks_bring 2 = .ok (.getfield 9, 3) ∧ decode b_Jacks_bring 5 = .ok (.isub, 1) ∧ decode b_Jacks_bring 6 = .ok (.istore_n 3, 1) ∧ decode b_Jacks_bring 7 = .ok (.aload_n 0, 1) ∧ decode b_Jacks_bring 8 = .ok (.getfield 15, 3) ∧ decode b_Jacks_bring 11 = .ok (.iload_n 3, 1) ∧ decode b_Jacks_bring 12 = .ok (.iaload, 1) ∧ decode b_Jacks_bring 13 = .ok (.iconst (-1), 1) ∧ decode b_Jacks_bring 14 = .ok (.if_icmp .eq 18, 3) ∧ decode b_Jacks_bring 17 = .ok (.aload_n 0, 1) ∧ decode b_Jacks_bring 18 = .ok (.getfield 15, 3) ∧ decode b_Jacks_bring 21 = .ok (.iload_n 3, 1) ∧ decode b_Jacks_bring 22 = .ok (.iaload, 1) ∧ decode b_Jacks_bring 23 = .ok (.iload_n 2, 1) ∧ decode b_Jacks_bring 24 = .ok (.if_icmp .eq 8, 3) ∧ decode b_Jacks_bring 27 = .ok (.aload_n 0, 1) ∧ decode b_Jacks_bring 28 = .ok (.iconst 1, 1) ∧ decode b_Jacks_bring 29 = .ok (.putfield 25, 3) ∧ decode b_Jacks_bring 32 = .ok (.aload_n 0, 1) ∧ decode b_Jacks_bring 33 = .ok (.getfield 15, 3) ∧ decode b_Jacks_bring 36 = .ok (.iload_n 3, 1) ∧ decode b_Jacks_bring 37 = .ok (.iload_n 2, 1) ∧ decode b_Jacks_bring 38 = .ok (.iastore, 1) ∧ decode b_Jacks_bring 39 = .ok (.return_, 1) := ⟨by decide +kernel, by decide +kernel, by decide +kernel, by decide +kernel, by decide +kernel, by decide +kernel, by decide +kernel, by decide +kernel, by decide +kernel, by decide +kernel, by decide +kernel, by decide +kernel, by decide +kernel, by decide +kernel, by decide +kernel, by decide +kernel, by decide +kernel, by decide +kernel, by decide +kernel, by decide +kernel, by decide +kernel, by decide +kernel, by decide +kernel, by decide +kernel, by decide +kernel, by decide +kernel⟩
theorem v_Jacks_bring : Cond.instanceMethod y_Jacks_bring ∈ nm_Ts ∧ Cond.selects y_Jacks_bring.cls y_Jacks_bring y_Jacks_bring ∈ nm_Ts ∧ Cond.initialized y_Jacks_bring.cls ∈ nm_Ts ∧ Cond.code y_Jacks_bring b_Jacks_bring 4 none ∈ nm_Ts ∧ mz_cl1 y_Jacks_bring 2 := ⟨nm_t3 83 rfl rfl, nm_t3 84 rfl rfl, nm_t1 7 rfl rfl, nm_t3 85 rfl rfl, by decide +kernel⟩
def y_FaultLight_stopAt : MethodName := ⟨"CardOffice$FaultLight", "stopAt", "(II)I"⟩
abbrev b_FaultLight_stopAt : ByteArray := prog_6_method_2_code
def r_FaultLight_stopAt (c s : Nat) : Room := { frames := 0, cells := c, slots := s, locals := 0 }
theorem d_FaultLight_stopAt : decode b_FaultLight_stopAt 0 = .ok (.aload_n 0, 1) ∧ decode b_FaultLight_stopAt 1 = .ok (.iload_n 1, 1) ∧ decode b_FaultLight_stopAt 2 = .ok (.putfield 9, 3) ∧ decode b_FaultLight_stopAt 5 = .ok (.aload_n 0, 1) ∧ decode b_FaultLight_stopAt 6 = .ok (.iload_n 2, 1) ∧ decode b_FaultLight_stopAt 7 = .ok (.putfield 15, 3) ∧ decode b_FaultLight_stopAt 10 = .ok (.iload_n 2, 1) ∧ decode b_FaultLight_stopAt 11 = .ok (.ireturn, 1) := ⟨by decide +kernel, by decide +kernel, by decide +kernel, by decide +kernel, by decide +kernel, by decide +kernel, by decide +kernel, by decide +kernel⟩
theorem v_FaultLight_stopAt : Cond.instanceMethod y_FaultLight_stopAt ∈ nm_Ts ∧ Cond.selects y_FaultLight_stopAt.cls y_FaultLight_stopAt y_FaultLight_stopAt ∈ nm_Ts ∧ Cond.initialized y_FaultLight_stopAt.cls ∈ nm_Ts ∧ Cond.code y_FaultLight_stopAt b_FaultLight_stopAt 3 (some .int) ∈ nm_Ts ∧ mz_cl1 y_FaultLight_stopAt 2 := ⟨nm_t3 87 rfl rfl, nm_t3 88 rfl rfl, nm_t1 2 rfl rfl, nm_t3 89 rfl rfl, by decide +kernel⟩
def y_Reproducer_newCard : MethodName := ⟨"CardOffice$Reproducer", "newCard", "()LCardOffice$Card;"⟩
abbrev b_Reproducer_newCard : ByteArray := prog_10_method_4_code
def r_Reproducer_newCard (c s : Nat) : Room := { frames := 2, cells := c, slots := s, locals := 34 }
theorem d_Reproducer_newCard : decode b_Reproducer_newCard 0 = .ok (.new 59, 3) ∧ decode b_Reproducer_newCard 3 = .ok (.dup, 1) ∧ decode b_Reproducer_newCard 4 = .ok (.invokespecial 74, 3) ∧ decode b_Reproducer_newCard 7 = .ok (.astore_n 1, 1) ∧ decode b_Reproducer_newCard 8 = .ok (.iconst 0, 1) ∧ decode b_Reproducer_newCard 9 = .ok (.istore_n 2, 1) ∧ decode b_Reproducer_newCard 10 = .ok (.iload_n 2, 1) ∧ decode b_Reproducer_newCard 11 = .ok (.bipush 16, 2) ∧ decode b_Reproducer_newCard 13 = .ok (.if_icmp .ge 23, 3) ∧ decode b_Reproducer_newCard 16 = .ok (.aload_n 1, 1) ∧ decode b_Reproducer_newCard 17 = .ok (.getfield 58, 3) ∧ decode b_Reproducer_newCard 20 = .ok (.iload_n 2, 1) ∧ decode b_Reproducer_newCard 21 = .ok (.aload_n 0, 1) ∧ decode b_Reproducer_newCard 22 = .ok (.getfield 14, 3) ∧ decode b_Reproducer_newCard 25 = .ok (.iload_n 2, 1) ∧ decode b_Reproducer_newCard 26 = .ok (.invokevirtual 75, 3) ∧ decode b_Reproducer_newCard 29 = .ok (.iastore, 1) ∧ decode b_Reproducer_newCard 30 = .ok (.iinc 2 1, 3) ∧ decode b_Reproducer_newCard 33 = .ok (.goto (-23), 3) ∧ decode b_Reproducer_newCard 36 = .ok (.aload_n 1, 1) ∧ decode b_Reproducer_newCard 37 = .ok (.areturn, 1) := ⟨by decide +kernel, by decide +kernel, by decide +kernel, by decide +kernel, by decide +kernel, by decide +kernel, by decide +kernel, by decide +kernel, by decide +kernel, by decide +kernel, by decide +kernel, by decide +kernel, by decide +kernel, by decide +kernel, by decide +kernel, by decide +kernel, by decide +kernel, by decide +kernel, by decide +kernel, by decide +kernel, by decide +kernel⟩
theorem v_Reproducer_newCard : Cond.instanceMethod y_Reproducer_newCard ∈ nm_Ts ∧ Cond.selects y_Reproducer_newCard.cls y_Reproducer_newCard y_Reproducer_newCard ∈ nm_Ts ∧ Cond.initialized y_Reproducer_newCard.cls ∈ nm_Ts ∧ Cond.code y_Reproducer_newCard b_Reproducer_newCard 3 (some (.object "CardOffice$Card")) ∈ nm_Ts ∧ mz_cl1 y_Reproducer_newCard 0 := ⟨nm_t3 92 rfl rfl, nm_s 8 rfl rfl, nm_t1 6 rfl rfl, nm_t3 93 rfl rfl, by decide +kernel⟩
def y_Jacks_signOrBlank : MethodName := ⟨"CardOffice$Jacks", "signOrBlank", "(I)I"⟩
abbrev b_Jacks_signOrBlank : ByteArray := prog_7_method_5_code
def r_Jacks_signOrBlank (c s : Nat) : Room := { frames := 0, cells := c, slots := s, locals := 0 }
theorem d_Jacks_signOrBlank : decode b_Jacks_signOrBlank 0 = .ok (.aload_n 0, 1) ∧ decode b_Jacks_signOrBlank 1 = .ok (.getfield 15, 3) ∧ decode b_Jacks_signOrBlank 4 = .ok (.iload_n 1, 1) ∧ decode b_Jacks_signOrBlank 5 = .ok (.iaload, 1) ∧ decode b_Jacks_signOrBlank 6 = .ok (.iconst (-1), 1) ∧ decode b_Jacks_signOrBlank 7 = .ok (.if_icmp .ne 8, 3) ∧ decode b_Jacks_signOrBlank 10 = .ok (.bipush 32, 2) ∧ decode b_Jacks_signOrBlank 12 = .ok (.goto 9, 3) ∧ decode b_Jacks_signOrBlank 15 = .ok (.aload_n 0, 1) ∧ decode b_Jacks_signOrBlank 16 = .ok (.getfield 15, 3) ∧ decode b_Jacks_signOrBlank 19 = .ok (.iload_n 1, 1) ∧ decode b_Jacks_signOrBlank 20 = .ok (.iaload, 1) ∧ decode b_Jacks_signOrBlank 21 = .ok (.ireturn, 1) := ⟨by decide +kernel, by decide +kernel, by decide +kernel, by decide +kernel, by decide +kernel, by decide +kernel, by decide +kernel, by decide +kernel, by decide +kernel, by decide +kernel, by decide +kernel, by decide +kernel, by decide +kernel⟩
theorem v_Jacks_signOrBlank : Cond.instanceMethod y_Jacks_signOrBlank ∈ nm_Ts ∧ Cond.selects y_Jacks_signOrBlank.cls y_Jacks_signOrBlank y_Jacks_signOrBlank ∈ nm_Ts ∧ Cond.initialized y_Jacks_signOrBlank.cls ∈ nm_Ts ∧ Cond.code y_Jacks_signOrBlank b_Jacks_signOrBlank 2 (some .int) ∈ nm_Ts ∧ mz_cl1 y_Jacks_signOrBlank 1 := ⟨nm_t3 97 rfl rfl, nm_t3 98 rfl rfl, nm_t1 7 rfl rfl, nm_t3 99 rfl rfl, by decide +kernel⟩
def y_FaultLight_allDone : MethodName := ⟨"CardOffice$FaultLight", "allDone", "(I)I"⟩
abbrev b_FaultLight_allDone : ByteArray := prog_6_method_3_code
def r_FaultLight_allDone (c s : Nat) : Room := { frames := 0, cells := c, slots := s, locals := 0 }
theorem d_FaultLight_allDone : decode b_FaultLight_allDone 0 = .ok (.aload_n 0, 1) ∧ decode b_FaultLight_allDone 1 = .ok (.iconst 0, 1) ∧ decode b_FaultLight_allDone 2 = .ok (.putfield 9, 3) ∧ decode b_FaultLight_allDone 5 = .ok (.aload_n 0, 1) ∧ decode b_FaultLight_allDone 6 = .ok (.iconst (-1), 1) ∧ decode b_FaultLight_allDone 7 = .ok (.putfield 15, 3) ∧ decode b_FaultLight_allDone 10 = .ok (.iload_n 1, 1) ∧ decode b_FaultLight_allDone 11 = .ok (.ireturn, 1) := ⟨by decide +kernel, by decide +kernel, by decide +kernel, by decide +kernel, by decide +kernel, by decide +kernel, by decide +kernel, by decide +kernel⟩
theorem v_FaultLight_allDone : Cond.instanceMethod y_FaultLight_allDone ∈ nm_Ts ∧ Cond.selects y_FaultLight_allDone.cls y_FaultLight_allDone y_FaultLight_allDone ∈ nm_Ts ∧ Cond.initialized y_FaultLight_allDone.cls ∈ nm_Ts ∧ Cond.code y_FaultLight_allDone b_FaultLight_allDone 2 (some .int) ∈ nm_Ts ∧ mz_cl1 y_FaultLight_allDone 1 := ⟨nm_t3 102 rfl rfl, nm_t3 103 rfl rfl, nm_t1 2 rfl rfl, nm_t3 104 rfl rfl, by decide +kernel⟩
def y_Office_gang : MethodName := ⟨"CardOffice", "gang", "(III)I"⟩
abbrev b_Office_gang : ByteArray := prog_1_method_11_code
def r_Office_gang (c s : Nat) : Room := { frames := 7, cells := c, slots := s, locals := 93 }
theorem d_Office_gang : decode b_Office_gang 0 = .ok (.iload_n 1, 1) ∧ decode b_Office_gang 1 = .ok (.invokestatic 84, 3) ∧ decode b_Office_gang 4 = .ok (.ifCond .eq 17, 3) ∧ decode b_Office_gang 7 = .ok (.iload_n 2, 1) ∧ decode b_Office_gang 8 = .ok (.invokestatic 62, 3) ∧ decode b_Office_gang 11 = .ok (.ifCond .eq 10, 3) ∧ decode b_Office_gang 14 = .ok (.iload_n 3, 1) ∧ decode b_Office_gang 15 = .ok (.invokestatic 106, 3) ∧ decode b_Office_gang 18 = .ok (.ifCond .ne 13, 3) ∧ decode b_Office_gang 21 = .ok (.new 109, 3) ∧ decode b_Office_gang 24 = .ok (.dup, 1) ∧ decode b_Office_gang 25 = .ok (.ldc 158, 2) ∧ decode b_Office_gang 27 = .ok (.invokespecial 113, 3) ∧ decode b_Office_gang 30 = .ok (.athrow, 1) ∧ decode b_Office_gang 31 = .ok (.aload_n 0, 1) ∧ decode b_Office_gang 32 = .ok (.getfield 49, 3) ∧ decode b_Office_gang 35 = .ok (.aload_n 0, 1) ∧ decode b_Office_gang 36 = .ok (.getfield 17, 3) ∧ decode b_Office_gang 39 = .ok (.iload_n 1, 1) ∧ decode b_Office_gang 40 = .ok (.aaload, 1) ∧ decode b_Office_gang 41 = .ok (.aload_n 0, 1) ∧ decode b_Office_gang 42 = .ok (.getfield 11, 3) ∧ decode b_Office_gang 45 = .ok (.iload_n 2, 1) ∧ decode b_Office_gang 46 = .ok (.aaload, 1) ∧ decode b_Office_gang 47 = .ok (.iload_n 3, 1) ∧ decode b_Office_gang 48 = .ok (.aload_n 0, 1) ∧ decode b_Office_gang 49 = .ok (.getfield 28, 3) ∧ decode b_Office_gang 52 = .ok (.invokevirtual 160, 3) ∧ decode b_Office_gang 55 = .ok (.ireturn, 1) := ⟨by decide +kernel, by decide +kernel, by decide +kernel, by decide +kernel, by decide +kernel, by decide +kernel, by decide +kernel, by decide +kernel, by decide +kernel, by decide +kernel, by decide +kernel, by decide +kernel, by decide +kernel, by decide +kernel, by decide +kernel, by decide +kernel, by decide +kernel, by decide +kernel, by decide +kernel, by decide +kernel, by decide +kernel, by decide +kernel, by decide +kernel, by decide +kernel, by decide +kernel, by decide +kernel, by decide +kernel, by decide +kernel, by decide +kernel⟩
theorem v_Office_gang : Cond.instanceMethod y_Office_gang ∈ nm_Ts ∧ Cond.selects y_Office_gang.cls y_Office_gang y_Office_gang ∈ nm_Ts ∧ Cond.initialized y_Office_gang.cls ∈ nm_Ts ∧ Cond.code y_Office_gang b_Office_gang 4 (some .int) ∈ nm_Ts ∧ mz_cl1 y_Office_gang 3 := ⟨nm_t3 109 rfl rfl, nm_t3 110 rfl rfl, nm_t1 1 rfl rfl, nm_t3 111 rfl rfl, by decide +kernel⟩
def y_Reproducer_punchGangs : MethodName := ⟨"CardOffice$Reproducer", "punchGangs", "(LCardOffice$Board;LCardOffice$Deck;ILCardOffice$FaultLight;)I"⟩
abbrev b_Reproducer_punchGangs : ByteArray := prog_10_method_3_code
def r_Reproducer_punchGangs (c s : Nat) : Room := { frames := 3, cells := c, slots := s, locals := 66 }
theorem d_Reproducer_punchGangs : decode b_Reproducer_punchGangs 0 = .ok (.aconst_null, 1) ∧ decode b_Reproducer_punchGangs 1 = .ok (.astore 5, 2) ∧ decode b_Reproducer_punchGangs 3 = .ok (.iconst 0, 1) ∧ decode b_Reproducer_punchGangs 4 = .ok (.istore 6, 2) ∧ decode b_Reproducer_punchGangs 6 = .ok (.iload 6, 2) ∧ decode b_Reproducer_punchGangs 8 = .ok (.aload_n 2, 1) ∧ decode b_Reproducer_punchGangs 9 = .ok (.getfield 20, 3) ∧ decode b_Reproducer_punchGangs 12 = .ok (.if_icmp .ge 98, 3) ∧ decode b_Reproducer_punchGangs 15 = .ok (.aload_n 2, 1) ∧ decode b_Reproducer_punchGangs 16 = .ok (.iload 6, 2) ∧ decode b_Reproducer_punchGangs 18 = .ok (.invokevirtual 26, 3) ∧ decode b_Reproducer_punchGangs 21 = .ok (.astore 7, 2) ∧ decode b_Reproducer_punchGangs 23 = .ok (.aload 7, 2) ∧ decode b_Reproducer_punchGangs 25 = .ok (.getfield 58, 3) ∧ decode b_Reproducer_punchGangs 28 = .ok (.iload_n 3, 1) ∧ decode b_Reproducer_punchGangs 29 = .ok (.iaload, 1) ∧ decode b_Reproducer_punchGangs 30 = .ok (.invokestatic 64, 3) ∧ decode b_Reproducer_punchGangs 33 = .ok (.iconst 2, 1) ∧ decode b_Reproducer_punchGangs 34 = .ok (.if_icmp .ne 10, 3) ∧ decode b_Reproducer_punchGangs 37 = .ok (.aload 7, 2) ∧ decode b_Reproducer_punchGangs 39 = .ok (.astore 5, 2) ∧ decode b_Reproducer_punchGangs 41 = .ok (.goto 63, 3) ∧ decode b_Reproducer_punchGangs 44 = .ok (.aload 5, 2) ∧ decode b_Reproducer_punchGangs 46 = .ok (.ifnull 58, 3) ∧ decode b_Reproducer_punchGangs 49 = .ok (.aload_n 1, 1) ∧ decode b_Reproducer_punchGangs 50 = .ok (.aload 5, 2) ∧ decode b_Reproducer_punchGangs 52 = .ok (.aload_n 0, 1) ∧ decode b_Reproducer_punchGangs 53 = .ok (.getfield 14, 3) ∧ decode b_Reproducer_punchGangs 56 = .ok (.invokevirtual 30, 3) ∧ decode b_Reproducer_punchGangs 59 = .ok (.aload_n 1, 1) ∧ decode b_Reproducer_punchGangs 60 = .ok (.aload 5, 2) ∧ decode b_Reproducer_punchGangs 62 = .ok (.aload 7, 2) ∧ decode b_Reproducer_punchGangs 64 = .ok (.invokevirtual 67, 3) ∧ decode b_Reproducer_punchGangs 67 = .ok (.ifCond .ne 12, 3) ∧ decode b_Reproducer_punchGangs 70 = .ok (.aload 4, 2) ∧ decode b_Reproducer_punchGangs 72 = .ok (.iconst 1, 1) ∧ decode b_Reproducer_punchGangs 73 = .ok (.iload 6, 2) ∧ decode b_Reproducer_punchGangs 75 = .ok (.invokevirtual 40, 3) ∧ decode b_Reproducer_punchGangs 78 = .ok (.ireturn, 1) ∧ decode b_Reproducer_punchGangs 79 = .ok (.aload_n 0, 1) ∧ decode b_Reproducer_punchGangs 80 = .ok (.getfield 14, 3) ∧ decode b_Reproducer_punchGangs 83 = .ok (.getfield 36, 3) ∧ decode b_Reproducer_punchGangs 86 = .ok (.ifCond .eq 12, 3) ∧ decode b_Reproducer_punchGangs 89 = .ok (.aload 4, 2) ∧ decode b_Reproducer_punchGangs 91 = .ok (.iconst 2, 1) ∧ decode b_Reproducer_punchGangs 92 = .ok (.iload 6, 2) ∧ decode b_Reproducer_punchGangs 94 = .ok (.invokevirtual 40, 3) ∧ decode b_Reproducer_punchGangs 97 = .ok (.ireturn, 1) ∧ decode b_Reproducer_punchGangs 98 = .ok (.aload_n 0, 1) ∧ decode b_Reproducer_punchGangs 99 = .ok (.aload 7, 2) ∧ decode b_Reproducer_punchGangs 101 = .ok (.invokevirtual 71, 3) ∧ decode b_Reproducer_punchGangs 104 = .ok (.iinc 6 1, 3) ∧ decode b_Reproducer_punchGangs 107 = .ok (.goto (-101), 3) ∧ decode b_Reproducer_punchGangs 110 = .ok (.aload 4, 2) ∧ decode b_Reproducer_punchGangs 112 = .ok (.aload_n 2, 1) ∧ decode b_Reproducer_punchGangs 113 = .ok (.getfield 20, 3) ∧ decode b_Reproducer_punchGangs 116 = .ok (.invokevirtual 54, 3) ∧ decode b_Reproducer_punchGangs 119 = .ok (.ireturn, 1) := ⟨by decide +kernel, by decide +kernel, by decide +kernel, by decide +kernel, by decide +kernel, by decide +kernel, by decide +kernel, by decide +kernel, by decide +kernel, by decide +kernel, by decide +kernel, by decide +kernel, by decide +kernel, by decide +kernel, by decide +kernel, by decide +kernel, by decide +kernel, by decide +kernel, by decide +kernel, by decide +kernel, by decide +kernel, by decide +kernel, by decide +kernel, by decide +kernel, by decide +kernel, by decide +kernel, by decide +kernel, by decide +kernel, by decide +kernel, by decide +kernel, by decide +kernel, by decide +kernel, by decide +kernel, by decide +kernel, by decide +kernel, by decide +kernel, by decide +kernel, by decide +kernel, by decide +kernel, by decide +kernel, by decide +kernel, by decide +kernel, by decide +kernel, by decide +kernel, by decide +kernel, by decide +kernel, by decide +kernel, by decide +kernel, by decide +kernel, by decide +kernel, by decide +kernel, by decide +kernel, by decide +kernel, by decide +kernel, by decide +kernel, by decide +kernel, by decide +kernel, by decide +kernel⟩
theorem v_Reproducer_punchGangs : Cond.instanceMethod y_Reproducer_punchGangs ∈ nm_Ts ∧ Cond.selects y_Reproducer_punchGangs.cls y_Reproducer_punchGangs y_Reproducer_punchGangs ∈ nm_Ts ∧ Cond.initialized y_Reproducer_punchGangs.cls ∈ nm_Ts ∧ Cond.code y_Reproducer_punchGangs b_Reproducer_punchGangs 8 (some .int) ∈ nm_Ts ∧ mz_cl1 y_Reproducer_punchGangs 4 := ⟨nm_t3 114 rfl rfl, nm_t3 115 rfl rfl, nm_t1 6 rfl rfl, nm_t3 116 rfl rfl, by decide +kernel⟩
def y_Board_canPunch : MethodName := ⟨"CardOffice$Board", "canPunch", "(LCardOffice$Card;LCardOffice$Card;)Z"⟩
abbrev b_Board_canPunch : ByteArray := prog_2_method_10_code
def r_Board_canPunch (c s : Nat) : Room := { frames := 1, cells := c, slots := s, locals := 22 }
theorem d_Board_canPunch : decode b_Board_canPunch 0 = .ok (.iconst 0, 1) ∧ decode b_Board_canPunch 1 = .ok (.istore_n 3, 1) ∧ decode b_Board_canPunch 2 = .ok (.iload_n 3, 1) ∧ decode b_Board_canPunch 3 = .ok (.aload_n 0, 1) ∧ decode b_Board_canPunch 4 = .ok (.getfield 27, 3) ∧ decode b_Board_canPunch 7 = .ok (.if_icmp .ge 49, 3) ∧ decode b_Board_canPunch 10 = .ok (.aload_n 0, 1) ∧ decode b_Board_canPunch 11 = .ok (.iload_n 3, 1) ∧ decode b_Board_canPunch 12 = .ok (.invokevirtual 45, 3) ∧ decode b_Board_canPunch 15 = .ok (.ifCond .ne 35, 3) ∧ decode b_Board_canPunch 18 = .ok (.aload_n 0, 1) ∧ decode b_Board_canPunch 19 = .ok (.getfield 15, 3) ∧ decode b_Board_canPunch 22 = .ok (.iload_n 3, 1) ∧ decode b_Board_canPunch 23 = .ok (.iaload, 1) ∧ decode b_Board_canPunch 24 = .ok (.bipush 16, 2) ∧ decode b_Board_canPunch 26 = .ok (.if_icmp .ge 24, 3) ∧ decode b_Board_canPunch 29 = .ok (.aload_n 2, 1) ∧ decode b_Board_canPunch 30 = .ok (.aload_n 0, 1) ∧ decode b_Board_canPunch 31 = .ok (.getfield 15, 3) ∧ decode b_Board_canPunch 34 = .ok (.iload_n 3, 1) ∧ decode b_Board_canPunch 35 = .ok (.iaload, 1) ∧ decode b_Board_canPunch 36 = .ok (.aload_n 0, 1) ∧ decode b_Board_canPunch 37 = .ok (.iload_n 3, 1) ∧ decode b_Board_canPunch 38 = .ok (.aload_n 1, 1) ∧ decode b_Board_canPunch 39 = .ok (.invokevirtual 52, 3) ∧ decode b_Board_canPunch 42 = .ok (.invokevirtual 67, 3) ∧ decode b_Board_canPunch 45 = .ok (.ifCond .ne 5, 3) ∧ decode b_Board_canPunch 48 = .ok (.iconst 0, 1) ∧ decode b_Board_canPunch 49 = .ok (.ireturn, 1) ∧ decode b_Board_canPunch 50 = .ok (.iinc 3 1, 3) ∧ decode b_Board_canPunch 53 = .ok (.goto (-51), 3) ∧ decode b_Board_canPunch 56 = .ok (.iconst 1, 1) ∧ decode b_Board_canPunch 57 = .ok (.ireturn, 1) := ⟨by decide +kernel, by decide +kernel, by decide +kernel, by decide +kernel, by decide +kernel, by decide +kernel, by decide +kernel, by decide +kernel, by decide +kernel, by decide +kernel, by decide +kernel, by decide +kernel, by decide +kernel, by decide +kernel, by decide +kernel, by decide +kernel, by decide +kernel, by decide +kernel, by decide +kernel, by decide +kernel, by decide +kernel, by decide +kernel, by decide +kernel, by decide +kernel, by decide +kernel, by decide +kernel, by decide +kernel, by decide +kernel, by decide +kernel, by decide +kernel, by decide +kernel, by decide +kernel, by decide +kernel⟩
theorem v_Board_canPunch : Cond.instanceMethod y_Board_canPunch ∈ nm_Ts ∧ Cond.selects y_Board_canPunch.cls y_Board_canPunch y_Board_canPunch ∈ nm_Ts ∧ Cond.initialized y_Board_canPunch.cls ∈ nm_Ts ∧ Cond.code y_Board_canPunch b_Board_canPunch 4 (some .boolean) ∈ nm_Ts ∧ mz_cl1 y_Board_canPunch 2 := ⟨nm_t3 119 rfl rfl, nm_t3 120 rfl rfl, nm_t1 10 rfl rfl, nm_t3 121 rfl rfl, by decide +kernel⟩
def y_Card_canTake : MethodName := ⟨"CardOffice$Card", "canTake", "(II)Z"⟩
abbrev b_Card_canTake : ByteArray := prog_3_method_3_code
def r_Card_canTake (c s : Nat) : Room := { frames := 0, cells := c, slots := s, locals := 0 }
theorem d_Card_canTake : decode b_Card_canTake 0 = .ok (.aload_n 0, 1) ∧ decode b_Card_canTake 1 = .ok (.getfield 9, 3) ∧ decode b_Card_canTake 4 = .ok (.iload_n 1, 1) ∧ decode b_Card_canTake 5 = .ok (.iaload, 1) ∧ decode b_Card_canTake 6 = .ok (.bipush 32, 2) ∧ decode b_Card_canTake 8 = .ok (.if_icmp .eq 13, 3) ∧ decode b_Card_canTake 11 = .ok (.aload_n 0, 1) ∧ decode b_Card_canTake 12 = .ok (.getfield 9, 3) ∧ decode b_Card_canTake 15 = .ok (.iload_n 1, 1) ∧ decode b_Card_canTake 16 = .ok (.iaload, 1) ∧ decode b_Card_canTake 17 = .ok (.iload_n 2, 1) ∧ decode b_Card_canTake 18 = .ok (.if_icmp .ne 7, 3) ∧ decode b_Card_canTake 21 = .ok (.iconst 1, 1) ∧ decode b_Card_canTake 22 = .ok (.goto 4, 3) ∧ decode b_Card_canTake 25 = .ok (.iconst 0, 1) ∧ decode b_Card_canTake 26 = .ok (.ireturn, 1) := ⟨by decide +kernel, by decide +kernel, by decide +kernel, by decide +kernel, by decide +kernel, by decide +kernel, by decide +kernel, by decide +kernel, by decide +kernel, by decide +kernel, by decide +kernel, by decide +kernel, by decide +kernel, by decide +kernel, by decide +kernel, by decide +kernel⟩
theorem v_Card_canTake : Cond.instanceMethod y_Card_canTake ∈ nm_Ts ∧ Cond.selects y_Card_canTake.cls y_Card_canTake y_Card_canTake ∈ nm_Ts ∧ Cond.initialized y_Card_canTake.cls ∈ nm_Ts ∧ Cond.code y_Card_canTake b_Card_canTake 3 (some .boolean) ∈ nm_Ts ∧ mz_cl1 y_Card_canTake 2 := ⟨nm_t3 123 rfl rfl, nm_t3 124 rfl rfl, nm_t1 13 rfl rfl, nm_t3 125 rfl rfl, by decide +kernel⟩
def y_Reproducer_punchInto : MethodName := ⟨"CardOffice$Reproducer", "punchInto", "(LCardOffice$Card;)V"⟩
abbrev b_Reproducer_punchInto : ByteArray := prog_10_method_5_code
def r_Reproducer_punchInto (c s : Nat) : Room := { frames := 0, cells := c, slots := s, locals := 0 }
theorem d_Reproducer_punchInto : decode b_Reproducer_punchInto 0 = .ok (.iconst 0, 1) ∧ decode b_Reproducer_punchInto 1 = .ok (.istore_n 2, 1) ∧ decode b_Reproducer_punchInto 2 = .ok (.iload_n 2, 1) ∧ decode b_Reproducer_punchInto 3 = .ok (.bipush 16, 2) ∧ decode b_Reproducer_punchInto 5 = .ok (.if_icmp .ge 37, 3) ∧ decode b_Reproducer_punchInto 8 = .ok (.aload_n 0, 1) ∧ decode b_Reproducer_punchInto 9 = .ok (.getfield 14, 3) ∧ decode b_Reproducer_punchInto 12 = .ok (.getfield 78, 3) ∧ decode b_Reproducer_punchInto 15 = .ok (.iload_n 2, 1) ∧ decode b_Reproducer_punchInto 16 = .ok (.iaload, 1) ∧ decode b_Reproducer_punchInto 17 = .ok (.iconst (-1), 1) ∧ decode b_Reproducer_punchInto 18 = .ok (.if_icmp .eq 18, 3) ∧ decode b_Reproducer_punchInto 21 = .ok (.aload_n 1, 1) ∧ decode b_Reproducer_punchInto 22 = .ok (.getfield 58, 3) ∧ decode b_Reproducer_punchInto 25 = .ok (.iload_n 2, 1) ∧ decode b_Reproducer_punchInto 26 = .ok (.aload_n 0, 1) ∧ decode b_Reproducer_punchInto 27 = .ok (.getfield 14, 3) ∧ decode b_Reproducer_punchInto 30 = .ok (.getfield 78, 3) ∧ decode b_Reproducer_punchInto 33 = .ok (.iload_n 2, 1) ∧ decode b_Reproducer_punchInto 34 = .ok (.iaload, 1) ∧ decode b_Reproducer_punchInto 35 = .ok (.iastore, 1) ∧ decode b_Reproducer_punchInto 36 = .ok (.iinc 2 1, 3) ∧ decode b_Reproducer_punchInto 39 = .ok (.goto (-37), 3) ∧ decode b_Reproducer_punchInto 42 = .ok (.return_, 1) := ⟨by decide +kernel, by decide +kernel, by decide +kernel, by decide +kernel, by decide +kernel, by decide +kernel, by decide +kernel, by decide +kernel, by decide +kernel, by decide +kernel, by decide +kernel, by decide +kernel, by decide +kernel, by decide +kernel, by decide +kernel, by decide +kernel, by decide +kernel, by decide +kernel, by decide +kernel, by decide +kernel, by decide +kernel, by decide +kernel, by decide +kernel, by decide +kernel⟩
theorem v_Reproducer_punchInto : Cond.instanceMethod y_Reproducer_punchInto ∈ nm_Ts ∧ Cond.selects y_Reproducer_punchInto.cls y_Reproducer_punchInto y_Reproducer_punchInto ∈ nm_Ts ∧ Cond.initialized y_Reproducer_punchInto.cls ∈ nm_Ts ∧ Cond.code y_Reproducer_punchInto b_Reproducer_punchInto 3 none ∈ nm_Ts ∧ mz_cl1 y_Reproducer_punchInto 1 := ⟨nm_t3 128 rfl rfl, nm_s 9 rfl rfl, nm_t1 6 rfl rfl, nm_t3 129 rfl rfl, by decide +kernel⟩
def y_Office_multiply : MethodName := ⟨"CardOffice", "multiply", "(IIII)I"⟩
abbrev b_Office_multiply : ByteArray := prog_1_method_12_code
def r_Office_multiply (c s : Nat) : Room := { frames := 7, cells := c, slots := s, locals := 140 }
theorem d_Office_multiply : decode b_Office_multiply 0 = .ok (.iload_n 1, 1) ∧ decode b_Office_multiply 1 = .ok (.invokestatic 62, 3) ∧ decode b_Office_multiply 4 = .ok (.ifCond .eq 25, 3) ∧ decode b_Office_multiply 7 = .ok (.iload_n 2, 1) ∧ decode b_Office_multiply 8 = .ok (.invokestatic 164, 3) ∧ decode b_Office_multiply 11 = .ok (.ifCond .eq 18, 3) ∧ decode b_Office_multiply 14 = .ok (.iload_n 3, 1) ∧ decode b_Office_multiply 15 = .ok (.invokestatic 164, 3) ∧ decode b_Office_multiply 18 = .ok (.ifCond .eq 11, 3) ∧ decode b_Office_multiply 21 = .ok (.iload 4, 2) ∧ decode b_Office_multiply 23 = .ok (.invokestatic 164, 3) ∧ decode b_Office_multiply 26 = .ok (.ifCond .ne 13, 3) ∧ decode b_Office_multiply 29 = .ok (.new 109, 3) ∧ decode b_Office_multiply 32 = .ok (.dup, 1) ∧ decode b_Office_multiply 33 = .ok (.ldc 123, 2) ∧ decode b_Office_multiply 35 = .ok (.invokespecial 113, 3) ∧ decode b_Office_multiply 38 = .ok (.athrow, 1) ∧ decode b_Office_multiply 39 = .ok (.iload 4, 2) ∧ decode b_Office_multiply 41 = .ok (.iload_n 2, 1) ∧ decode b_Office_multiply 42 = .ok (.invokestatic 167, 3) ∧ decode b_Office_multiply 45 = .ok (.ifCond .ne 12, 3) ∧ decode b_Office_multiply 48 = .ok (.iload 4, 2) ∧ decode b_Office_multiply 50 = .ok (.iload_n 3, 1) ∧ decode b_Office_multiply 51 = .ok (.invokestatic 167, 3) ∧ decode b_Office_multiply 54 = .ok (.ifCond .eq 13, 3) ∧ decode b_Office_multiply 57 = .ok (.new 109, 3) ∧ decode b_Office_multiply 60 = .ok (.dup, 1) ∧ decode b_Office_multiply 61 = .ok (.ldc 170, 2) ∧ decode b_Office_multiply 63 = .ok (.invokespecial 113, 3) ∧ decode b_Office_multiply 66 = .ok (.athrow, 1) ∧ decode b_Office_multiply 67 = .ok (.aload_n 0, 1) ∧ decode b_Office_multiply 68 = .ok (.getfield 11, 3) ∧ decode b_Office_multiply 71 = .ok (.iload_n 1, 1) ∧ decode b_Office_multiply 72 = .ok (.aaload, 1) ∧ decode b_Office_multiply 73 = .ok (.iload_n 2, 1) ∧ decode b_Office_multiply 74 = .ok (.iload_n 3, 1) ∧ decode b_Office_multiply 75 = .ok (.iload 4, 2) ∧ decode b_Office_multiply 77 = .ok (.aload_n 0, 1) ∧ decode b_Office_multiply 78 = .ok (.getfield 28, 3) ∧ decode b_Office_multiply 81 = .ok (.invokestatic 172, 3) ∧ decode b_Office_multiply 84 = .ok (.ireturn, 1) := ⟨by decide +kernel, by decide +kernel, by decide +kernel, by decide +kernel, by decide +kernel, by decide +kernel, by decide +kernel, by decide +kernel, by decide +kernel, by decide +kernel, by decide +kernel, by decide +kernel, by decide +kernel, by decide +kernel, by decide +kernel, by decide +kernel, by decide +kernel, by decide +kernel, by decide +kernel, by decide +kernel, by decide +kernel, by decide +kernel, by decide +kernel, by decide +kernel, by decide +kernel, by decide +kernel, by decide +kernel, by decide +kernel, by decide +kernel, by decide +kernel, by decide +kernel, by decide +kernel, by decide +kernel, by decide +kernel, by decide +kernel, by decide +kernel, by decide +kernel, by decide +kernel, by decide +kernel, by decide +kernel, by decide +kernel⟩
theorem v_Office_multiply : Cond.instanceMethod y_Office_multiply ∈ nm_Ts ∧ Cond.selects y_Office_multiply.cls y_Office_multiply y_Office_multiply ∈ nm_Ts ∧ Cond.initialized y_Office_multiply.cls ∈ nm_Ts ∧ Cond.code y_Office_multiply b_Office_multiply 5 (some .int) ∈ nm_Ts ∧ mz_cl1 y_Office_multiply 4 := ⟨nm_t3 134 rfl rfl, nm_t3 135 rfl rfl, nm_t1 1 rfl rfl, nm_t3 136 rfl rfl, by decide +kernel⟩
def y_Office_isFactorField : MethodName := ⟨"CardOffice", "isFactorField", "(I)Z"⟩
abbrev b_Office_isFactorField : ByteArray := prog_1_method_29_code
def r_Office_isFactorField (c s : Nat) : Room := { frames := 2, cells := c, slots := s, locals := 40 }
theorem d_Office_isFactorField : decode b_Office_isFactorField 0 = .ok (.iload_n 0, 1) ∧ decode b_Office_isFactorField 1 = .ok (.ifCond .lt 22, 3) ∧ decode b_Office_isFactorField 4 = .ok (.iload_n 0, 1) ∧ decode b_Office_isFactorField 5 = .ok (.bipush 96, 2) ∧ decode b_Office_isFactorField 7 = .ok (.if_icmp .ge 16, 3) ∧ decode b_Office_isFactorField 10 = .ok (.iload_n 0, 1) ∧ decode b_Office_isFactorField 11 = .ok (.invokestatic 234, 3) ∧ decode b_Office_isFactorField 14 = .ok (.bipush 16, 2) ∧ decode b_Office_isFactorField 16 = .ok (.if_icmp .gt 7, 3) ∧ decode b_Office_isFactorField 19 = .ok (.iconst 1, 1) ∧ decode b_Office_isFactorField 20 = .ok (.goto 4, 3) ∧ decode b_Office_isFactorField 23 = .ok (.iconst 0, 1) ∧ decode b_Office_isFactorField 24 = .ok (.ireturn, 1) := ⟨by decide +kernel, by decide +kernel, by decide +kernel, by decide +kernel, by decide +kernel, by decide +kernel, by decide +kernel, by decide +kernel, by decide +kernel, by decide +kernel, by decide +kernel, by decide +kernel, by decide +kernel⟩
theorem s_Office_isFactorField : Cond.static y_Office_isFactorField ∈ nm_Ts ∧ Cond.initialized y_Office_isFactorField.cls ∈ nm_Ts ∧ Cond.code y_Office_isFactorField b_Office_isFactorField 1 (some .boolean) ∈ nm_Ts ∧ mz_cl1 y_Office_isFactorField 1 := ⟨nm_t3 138 rfl rfl, nm_t1 1 rfl rfl, nm_t3 139 rfl rfl, by decide +kernel⟩
def y_Office_endOf : MethodName := ⟨"CardOffice", "endOf", "(I)I"⟩
abbrev b_Office_endOf : ByteArray := prog_1_method_33_code
def r_Office_endOf (c s : Nat) : Room := { frames := 1, cells := c, slots := s, locals := 20 }
theorem d_Office_endOf : decode b_Office_endOf 0 = .ok (.iload_n 0, 1) ∧ decode b_Office_endOf 1 = .ok (.invokestatic 238, 3) ∧ decode b_Office_endOf 4 = .ok (.iload_n 0, 1) ∧ decode b_Office_endOf 5 = .ok (.invokestatic 241, 3) ∧ decode b_Office_endOf 8 = .ok (.iadd, 1) ∧ decode b_Office_endOf 9 = .ok (.ireturn, 1) := ⟨by decide +kernel, by decide +kernel, by decide +kernel, by decide +kernel, by decide +kernel, by decide +kernel⟩
theorem s_Office_endOf : Cond.static y_Office_endOf ∈ nm_Ts ∧ Cond.initialized y_Office_endOf.cls ∈ nm_Ts ∧ Cond.code y_Office_endOf b_Office_endOf 1 (some .int) ∈ nm_Ts ∧ mz_cl1 y_Office_endOf 1 := ⟨nm_t3 141 rfl rfl, nm_t1 1 rfl rfl, nm_t3 142 rfl rfl, by decide +kernel⟩
def y_Office_startOf : MethodName := ⟨"CardOffice", "startOf", "(I)I"⟩
abbrev b_Office_startOf : ByteArray := prog_1_method_31_code
def r_Office_startOf (c s : Nat) : Room := { frames := 0, cells := c, slots := s, locals := 0 }
theorem d_Office_startOf : decode b_Office_startOf 0 = .ok (.iload_n 0, 1) ∧ decode b_Office_startOf 1 = .ok (.bipush 16, 2) ∧ decode b_Office_startOf 3 = .ok (.irem, 1) ∧ decode b_Office_startOf 4 = .ok (.ireturn, 1) := ⟨by decide +kernel, by decide +kernel, by decide +kernel, by decide +kernel⟩
theorem s_Office_startOf : Cond.static y_Office_startOf ∈ nm_Ts ∧ Cond.initialized y_Office_startOf.cls ∈ nm_Ts ∧ Cond.code y_Office_startOf b_Office_startOf 1 (some .int) ∈ nm_Ts ∧ mz_cl1 y_Office_startOf 1 := ⟨nm_t3 144 rfl rfl, nm_t1 1 rfl rfl, nm_t3 145 rfl rfl, by decide +kernel⟩
def y_Office_widthOf : MethodName := ⟨"CardOffice", "widthOf", "(I)I"⟩
abbrev b_Office_widthOf : ByteArray := prog_1_method_32_code
def r_Office_widthOf (c s : Nat) : Room := { frames := 0, cells := c, slots := s, locals := 0 }
theorem d_Office_widthOf : decode b_Office_widthOf 0 = .ok (.iload_n 0, 1) ∧ decode b_Office_widthOf 1 = .ok (.bipush 16, 2) ∧ decode b_Office_widthOf 3 = .ok (.idiv, 1) ∧ decode b_Office_widthOf 4 = .ok (.iconst 1, 1) ∧ decode b_Office_widthOf 5 = .ok (.iadd, 1) ∧ decode b_Office_widthOf 6 = .ok (.ireturn, 1) := ⟨by decide +kernel, by decide +kernel, by decide +kernel, by decide +kernel, by decide +kernel, by decide +kernel⟩
theorem s_Office_widthOf : Cond.static y_Office_widthOf ∈ nm_Ts ∧ Cond.initialized y_Office_widthOf.cls ∈ nm_Ts ∧ Cond.code y_Office_widthOf b_Office_widthOf 1 (some .int) ∈ nm_Ts ∧ mz_cl1 y_Office_widthOf 1 := ⟨nm_t3 147 rfl rfl, nm_t1 1 rfl rfl, nm_t3 148 rfl rfl, by decide +kernel⟩
def y_Office_haveCommonColumn : MethodName := ⟨"CardOffice", "haveCommonColumn", "(II)Z"⟩
abbrev b_Office_haveCommonColumn : ByteArray := prog_1_method_30_code
def r_Office_haveCommonColumn (c s : Nat) : Room := { frames := 2, cells := c, slots := s, locals := 40 }
theorem d_Office_haveCommonColumn : decode b_Office_haveCommonColumn 0 = .ok (.iload_n 0, 1) ∧ decode b_Office_haveCommonColumn 1 = .ok (.invokestatic 238, 3) ∧ decode b_Office_haveCommonColumn 4 = .ok (.iload_n 1, 1) ∧ decode b_Office_haveCommonColumn 5 = .ok (.invokestatic 234, 3) ∧ decode b_Office_haveCommonColumn 8 = .ok (.if_icmp .ge 18, 3) ∧ decode b_Office_haveCommonColumn 11 = .ok (.iload_n 1, 1) ∧ decode b_Office_haveCommonColumn 12 = .ok (.invokestatic 238, 3) ∧ decode b_Office_haveCommonColumn 15 = .ok (.iload_n 0, 1) ∧ decode b_Office_haveCommonColumn 16 = .ok (.invokestatic 234, 3) ∧ decode b_Office_haveCommonColumn 19 = .ok (.if_icmp .ge 7, 3) ∧ decode b_Office_haveCommonColumn 22 = .ok (.iconst 1, 1) ∧ decode b_Office_haveCommonColumn 23 = .ok (.goto 4, 3) ∧ decode b_Office_haveCommonColumn 26 = .ok (.iconst 0, 1) ∧ decode b_Office_haveCommonColumn 27 = .ok (.ireturn, 1) := ⟨by decide +kernel, by decide +kernel, by decide +kernel, by decide +kernel, by decide +kernel, by decide +kernel, by decide +kernel, by decide +kernel, by decide +kernel, by decide +kernel, by decide +kernel, by decide +kernel, by decide +kernel, by decide +kernel⟩
theorem s_Office_haveCommonColumn : Cond.static y_Office_haveCommonColumn ∈ nm_Ts ∧ Cond.initialized y_Office_haveCommonColumn.cls ∈ nm_Ts ∧ Cond.code y_Office_haveCommonColumn b_Office_haveCommonColumn 2 (some .boolean) ∈ nm_Ts ∧ mz_cl1 y_Office_haveCommonColumn 2 := ⟨nm_t3 150 rfl rfl, nm_t1 1 rfl rfl, nm_t3 151 rfl rfl, by decide +kernel⟩
def y_Multiplier_goThrough : MethodName := ⟨"CardOffice$Multiplier", "goThrough", "(LCardOffice$Deck;IIILCardOffice$FaultLight;)I"⟩
abbrev b_Multiplier_goThrough : ByteArray := prog_8_method_2_code
def r_Multiplier_goThrough (c s : Nat) : Room := { frames := 5, cells := c, slots := s, locals := 114 }
theorem d_Multiplier_goThrough : decode b_Multiplier_goThrough 0 = .ok (.iconst 0, 1) ∧ decode b_Multiplier_goThrough 1 = .ok (.istore 5, 2) ∧ decode b_Multiplier_goThrough 3 = .ok (.iload 5, 2) ∧ decode b_Multiplier_goThrough 5 = .ok (.aload_n 0, 1) ∧ decode b_Multiplier_goThrough 6 = .ok (.getfield 9, 3) ∧ decode b_Multiplier_goThrough 9 = .ok (.if_icmp .ge 38, 3) ∧ decode b_Multiplier_goThrough 12 = .ok (.aload_n 0, 1) ∧ decode b_Multiplier_goThrough 13 = .ok (.iload 5, 2) ∧ decode b_Multiplier_goThrough 15 = .ok (.invokevirtual 15, 3) ∧ decode b_Multiplier_goThrough 18 = .ok (.iload_n 1, 1) ∧ decode b_Multiplier_goThrough 19 = .ok (.iload_n 2, 1) ∧ decode b_Multiplier_goThrough 20 = .ok (.iload_n 3, 1) ∧ decode b_Multiplier_goThrough 21 = .ok (.invokestatic 19, 3) ∧ decode b_Multiplier_goThrough 24 = .ok (.istore 6, 2) ∧ decode b_Multiplier_goThrough 26 = .ok (.iload 6, 2) ∧ decode b_Multiplier_goThrough 28 = .ok (.ifCond .eq 13, 3) ∧ decode b_Multiplier_goThrough 31 = .ok (.aload 4, 2) ∧ decode b_Multiplier_goThrough 33 = .ok (.iload 6, 2) ∧ decode b_Multiplier_goThrough 35 = .ok (.iload 5, 2) ∧ decode b_Multiplier_goThrough 37 = .ok (.invokevirtual 25, 3) ∧ decode b_Multiplier_goThrough 40 = .ok (.ireturn, 1) ∧ decode b_Multiplier_goThrough 41 = .ok (.iinc 5 1, 3) ∧ decode b_Multiplier_goThrough 44 = .ok (.goto (-41), 3) ∧ decode b_Multiplier_goThrough 47 = .ok (.aload 4, 2) ∧ decode b_Multiplier_goThrough 49 = .ok (.aload_n 0, 1) ∧ decode b_Multiplier_goThrough 50 = .ok (.getfield 9, 3) ∧ decode b_Multiplier_goThrough 53 = .ok (.invokevirtual 31, 3) ∧ decode b_Multiplier_goThrough 56 = .ok (.ireturn, 1) := ⟨by decide +kernel, by decide +kernel, by decide +kernel, by decide +kernel, by decide +kernel, by decide +kernel, by decide +kernel, by decide +kernel, by decide +kernel, by decide +kernel, by decide +kernel, by decide +kernel, by decide +kernel, by decide +kernel, by decide +kernel, by decide +kernel, by decide +kernel, by decide +kernel, by decide +kernel, by decide +kernel, by decide +kernel, by decide +kernel, by decide +kernel, by decide +kernel, by decide +kernel, by decide +kernel, by decide +kernel, by decide +kernel⟩
theorem s_Multiplier_goThrough : Cond.static y_Multiplier_goThrough ∈ nm_Ts ∧ Cond.initialized y_Multiplier_goThrough.cls ∈ nm_Ts ∧ Cond.code y_Multiplier_goThrough b_Multiplier_goThrough 7 (some .int) ∈ nm_Ts ∧ mz_cl1 y_Multiplier_goThrough 5 := ⟨nm_t3 154 rfl rfl, nm_t1 20 rfl rfl, nm_t3 155 rfl rfl, by decide +kernel⟩
def y_Multiplier_multiplyOn : MethodName := ⟨"CardOffice$Multiplier", "multiplyOn", "(LCardOffice$Card;III)I"⟩
abbrev b_Multiplier_multiplyOn : ByteArray := prog_8_method_3_code
def r_Multiplier_multiplyOn (c s : Nat) : Room := { frames := 4, cells := c, slots := s, locals := 85 }
theorem d_Multiplier_multiplyOn : decode b_Multiplier_multiplyOn 0 = .ok (.aload_n 0, 1) ∧ decode b_Multiplier_multiplyOn 1 = .ok (.iload_n 1, 1) ∧ decode b_Multiplier_multiplyOn 2 = .ok (.invokestatic 35, 3) ∧ decode b_Multiplier_multiplyOn 5 = .ok (.lstore 4, 2) ∧ decode b_Multiplier_multiplyOn 7 = .ok (.aload_n 0, 1) ∧ decode b_Multiplier_multiplyOn 8 = .ok (.iload_n 2, 1) ∧ decode b_Multiplier_multiplyOn 9 = .ok (.invokestatic 35, 3) ∧ decode b_Multiplier_multiplyOn 12 = .ok (.lstore 6, 2) ∧ decode b_Multiplier_multiplyOn 14 = .ok (.lload 4, 2) ∧ decode b_Multiplier_multiplyOn 16 = .ok (.ldc2_w 39, 3) ∧ decode b_Multiplier_multiplyOn 19 = .ok (.lcmp, 1) ∧ decode b_Multiplier_multiplyOn 20 = .ok (.ifCond .eq 12, 3) ∧ decode b_Multiplier_multiplyOn 23 = .ok (.lload 6, 2) ∧ decode b_Multiplier_multiplyOn 25 = .ok (.ldc2_w 39, 3) ∧ decode b_Multiplier_multiplyOn 28 = .ok (.lcmp, 1) ∧ decode b_Multiplier_multiplyOn 29 = .ok (.ifCond .ne 5, 3) ∧ decode b_Multiplier_multiplyOn 32 = .ok (.iconst 1, 1) ∧ decode b_Multiplier_multiplyOn 33 = .ok (.ireturn, 1) ∧ decode b_Multiplier_multiplyOn 34 = .ok (.lload 4, 2) ∧ decode b_Multiplier_multiplyOn 36 = .ok (.lload 6, 2) ∧ decode b_Multiplier_multiplyOn 38 = .ok (.lmul, 1) ∧ decode b_Multiplier_multiplyOn 39 = .ok (.ldc2_w 41, 3) ∧ decode b_Multiplier_multiplyOn 42 = .ok (.ladd, 1) ∧ decode b_Multiplier_multiplyOn 43 = .ok (.ldc2_w 43, 3) ∧ decode b_Multiplier_multiplyOn 46 = .ok (.ldiv, 1) ∧ decode b_Multiplier_multiplyOn 47 = .ok (.lstore 8, 2) ∧ decode b_Multiplier_multiplyOn 49 = .ok (.lload 8, 2) ∧ decode b_Multiplier_multiplyOn 51 = .ok (.getstatic 45, 3) ∧ decode b_Multiplier_multiplyOn 54 = .ok (.iload_n 3, 1) ∧ decode b_Multiplier_multiplyOn 55 = .ok (.invokestatic 49, 3) ∧ decode b_Multiplier_multiplyOn 58 = .ok (.iaload, 1) ∧ decode b_Multiplier_multiplyOn 59 = .ok (.i2l, 1) ∧ decode b_Multiplier_multiplyOn 60 = .ok (.lcmp, 1) ∧ decode b_Multiplier_multiplyOn 61 = .ok (.ifCond .lt 5, 3) ∧ decode b_Multiplier_multiplyOn 64 = .ok (.iconst 3, 1) ∧ decode b_Multiplier_multiplyOn 65 = .ok (.ireturn, 1) ∧ decode b_Multiplier_multiplyOn 66 = .ok (.aload_n 0, 1) ∧ decode b_Multiplier_multiplyOn 67 = .ok (.iload_n 3, 1) ∧ decode b_Multiplier_multiplyOn 68 = .ok (.lload 8, 2) ∧ decode b_Multiplier_multiplyOn 70 = .ok (.l2i, 1) ∧ decode b_Multiplier_multiplyOn 71 = .ok (.invokestatic 52, 3) ∧ decode b_Multiplier_multiplyOn 74 = .ok (.ifCond .ne 5, 3) ∧ decode b_Multiplier_multiplyOn 77 = .ok (.iconst 1, 1) ∧ decode b_Multiplier_multiplyOn 78 = .ok (.ireturn, 1) ∧ decode b_Multiplier_multiplyOn 79 = .ok (.aload_n 0, 1) ∧ decode b_Multiplier_multiplyOn 80 = .ok (.iload_n 3, 1) ∧ decode b_Multiplier_multiplyOn 81 = .ok (.lload 8, 2) ∧ decode b_Multiplier_multiplyOn 83 = .ok (.l2i, 1) ∧ decode b_Multiplier_multiplyOn 84 = .ok (.invokestatic 56, 3) ∧ decode b_Multiplier_multiplyOn 87 = .ok (.iconst 0, 1) ∧ decode b_Multiplier_multiplyOn 88 = .ok (.ireturn, 1) := ⟨by decide +kernel, by decide +kernel, by decide +kernel, by decide +kernel, by decide +kernel, by decide +kernel, by decide +kernel, by decide +kernel, by decide +kernel, by decide +kernel, by decide +kernel, by decide +kernel, by decide +kernel, by decide +kernel, by decide +kernel, by decide +kernel, by decide +kernel, by decide +kernel, by decide +kernel, by decide +kernel, by decide +kernel, by decide +kernel, by decide +kernel, by decide +kernel, by decide +kernel, by decide +kernel, by decide +kernel, by decide +kernel, by decide +kernel, by decide +kernel, by decide +kernel, by decide +kernel, by decide +kernel, by decide +kernel, by decide +kernel, by decide +kernel, by decide +kernel, by decide +kernel, by decide +kernel, by decide +kernel, by decide +kernel, by decide +kernel, by decide +kernel, by decide +kernel, by decide +kernel, by decide +kernel, by decide +kernel, by decide +kernel, by decide +kernel, by decide +kernel, by decide +kernel⟩
theorem s_Multiplier_multiplyOn : Cond.static y_Multiplier_multiplyOn ∈ nm_Ts ∧ Cond.initialized y_Multiplier_multiplyOn.cls ∈ nm_Ts ∧ Cond.code y_Multiplier_multiplyOn b_Multiplier_multiplyOn 10 (some .int) ∈ nm_Ts ∧ mz_cl1 y_Multiplier_multiplyOn 4 := ⟨nm_t3 158 rfl rfl, nm_t1 20 rfl rfl, nm_t3 159 rfl rfl, by decide +kernel⟩
def y_Multiplier_numberIn : MethodName := ⟨"CardOffice$Multiplier", "numberIn", "(LCardOffice$Card;I)J"⟩
abbrev b_Multiplier_numberIn : ByteArray := prog_8_method_4_code
def r_Multiplier_numberIn (c s : Nat) : Room := { frames := 2, cells := c, slots := s, locals := 40 }
theorem d_Multiplier_numberIn : decode b_Multiplier_numberIn 0 = .ok (.lconst 0, 1) ∧ decode b_Multiplier_numberIn 1 = .ok (.lstore_n 2, 1) ∧ decode b_Multiplier_numberIn 2 = .ok (.iload_n 1, 1) ∧ decode b_Multiplier_numberIn 3 = .ok (.invokestatic 60, 3) ∧ decode b_Multiplier_numberIn 6 = .ok (.istore 4, 2) ∧ decode b_Multiplier_numberIn 8 = .ok (.iload 4, 2) ∧ decode b_Multiplier_numberIn 10 = .ok (.iload_n 1, 1) ∧ decode b_Multiplier_numberIn 11 = .ok (.invokestatic 63, 3) ∧ decode b_Multiplier_numberIn 14 = .ok (.if_icmp .ge 47, 3) ∧ decode b_Multiplier_numberIn 17 = .ok (.aload_n 0, 1) ∧ decode b_Multiplier_numberIn 18 = .ok (.getfield 66, 3) ∧ decode b_Multiplier_numberIn 21 = .ok (.iload 4, 2) ∧ decode b_Multiplier_numberIn 23 = .ok (.iaload, 1) ∧ decode b_Multiplier_numberIn 24 = .ok (.istore 5, 2) ∧ decode b_Multiplier_numberIn 26 = .ok (.iload 5, 2) ∧ decode b_Multiplier_numberIn 28 = .ok (.invokestatic 71, 3) ∧ decode b_Multiplier_numberIn 31 = .ok (.ifCond .eq 7, 3) ∧ decode b_Multiplier_numberIn 34 = .ok (.ldc2_w 39, 3) ∧ decode b_Multiplier_numberIn 37 = .ok (.lreturn, 1) ∧ decode b_Multiplier_numberIn 38 = .ok (.lload_n 2, 1) ∧ decode b_Multiplier_numberIn 39 = .ok (.ldc2_w 43, 3) ∧ decode b_Multiplier_numberIn 42 = .ok (.lmul, 1) ∧ decode b_Multiplier_numberIn 43 = .ok (.iload 5, 2) ∧ decode b_Multiplier_numberIn 45 = .ok (.invokestatic 74, 3) ∧ decode b_Multiplier_numberIn 48 = .ok (.iconst 0, 1) ∧ decode b_Multiplier_numberIn 49 = .ok (.invokestatic 77, 3) ∧ decode b_Multiplier_numberIn 52 = .ok (.i2l, 1) ∧ decode b_Multiplier_numberIn 53 = .ok (.ladd, 1) ∧ decode b_Multiplier_numberIn 54 = .ok (.lstore_n 2, 1) ∧ decode b_Multiplier_numberIn 55 = .ok (.iinc 4 1, 3) ∧ decode b_Multiplier_numberIn 58 = .ok (.goto (-50), 3) ∧ decode b_Multiplier_numberIn 61 = .ok (.lload_n 2, 1) ∧ decode b_Multiplier_numberIn 62 = .ok (.lreturn, 1) := ⟨by decide +kernel, by decide +kernel, by decide +kernel, by decide +kernel, by decide +kernel, by decide +kernel, by decide +kernel, by decide +kernel, by decide +kernel, by decide +kernel, by decide +kernel, by decide +kernel, by decide +kernel, by decide +kernel, by decide +kernel, by decide +kernel, by decide +kernel, by decide +kernel, by decide +kernel, by decide +kernel, by decide +kernel, by decide +kernel, by decide +kernel, by decide +kernel, by decide +kernel, by decide +kernel, by decide +kernel, by decide +kernel, by decide +kernel, by decide +kernel, by decide +kernel, by decide +kernel, by decide +kernel⟩
theorem s_Multiplier_numberIn : Cond.static y_Multiplier_numberIn ∈ nm_Ts ∧ Cond.initialized y_Multiplier_numberIn.cls ∈ nm_Ts ∧ Cond.code y_Multiplier_numberIn b_Multiplier_numberIn 6 (some .long) ∈ nm_Ts ∧ mz_cl1 y_Multiplier_numberIn 2 := ⟨nm_t3 161 rfl rfl, nm_t1 20 rfl rfl, nm_t3 162 rfl rfl, by decide +kernel⟩
def y_Multiplier_canTakeNumber : MethodName := ⟨"CardOffice$Multiplier", "canTakeNumber", "(LCardOffice$Card;II)Z"⟩
abbrev b_Multiplier_canTakeNumber : ByteArray := prog_8_method_5_code
def r_Multiplier_canTakeNumber (c s : Nat) : Room := { frames := 3, cells := c, slots := s, locals := 62 }
theorem d_Multiplier_canTakeNumber : decode b_Multiplier_canTakeNumber 0 = .ok (.iload_n 1, 1) ∧ decode b_Multiplier_canTakeNumber 1 = .ok (.invokestatic 60, 3) ∧ decode b_Multiplier_canTakeNumber 4 = .ok (.istore_n 3, 1) ∧ decode b_Multiplier_canTakeNumber 5 = .ok (.iload_n 3, 1) ∧ decode b_Multiplier_canTakeNumber 6 = .ok (.iload_n 1, 1) ∧ decode b_Multiplier_canTakeNumber 7 = .ok (.invokestatic 63, 3) ∧ decode b_Multiplier_canTakeNumber 10 = .ok (.if_icmp .ge 25, 3) ∧ decode b_Multiplier_canTakeNumber 13 = .ok (.aload_n 0, 1) ∧ decode b_Multiplier_canTakeNumber 14 = .ok (.iload_n 3, 1) ∧ decode b_Multiplier_canTakeNumber 15 = .ok (.iload_n 2, 1) ∧ decode b_Multiplier_canTakeNumber 16 = .ok (.iload_n 1, 1) ∧ decode b_Multiplier_canTakeNumber 17 = .ok (.iload_n 3, 1) ∧ decode b_Multiplier_canTakeNumber 18 = .ok (.invokestatic 82, 3) ∧ decode b_Multiplier_canTakeNumber 21 = .ok (.invokevirtual 86, 3) ∧ decode b_Multiplier_canTakeNumber 24 = .ok (.ifCond .ne 5, 3) ∧ decode b_Multiplier_canTakeNumber 27 = .ok (.iconst 0, 1) ∧ decode b_Multiplier_canTakeNumber 28 = .ok (.ireturn, 1) ∧ decode b_Multiplier_canTakeNumber 29 = .ok (.iinc 3 1, 3) ∧ decode b_Multiplier_canTakeNumber 32 = .ok (.goto (-27), 3) ∧ decode b_Multiplier_canTakeNumber 35 = .ok (.iconst 1, 1) ∧ decode b_Multiplier_canTakeNumber 36 = .ok (.ireturn, 1) := ⟨by decide +kernel, by decide +kernel, by decide +kernel, by decide +kernel, by decide +kernel, by decide +kernel, by decide +kernel, by decide +kernel, by decide +kernel, by decide +kernel, by decide +kernel, by decide +kernel, by decide +kernel, by decide +kernel, by decide +kernel, by decide +kernel, by decide +kernel, by decide +kernel, by decide +kernel, by decide +kernel, by decide +kernel⟩
theorem s_Multiplier_canTakeNumber : Cond.static y_Multiplier_canTakeNumber ∈ nm_Ts ∧ Cond.initialized y_Multiplier_canTakeNumber.cls ∈ nm_Ts ∧ Cond.code y_Multiplier_canTakeNumber b_Multiplier_canTakeNumber 4 (some .boolean) ∈ nm_Ts ∧ mz_cl1 y_Multiplier_canTakeNumber 3 := ⟨nm_t3 175 rfl rfl, nm_t1 20 rfl rfl, nm_t3 176 rfl rfl, by decide +kernel⟩
def y_Multiplier_signOfNumber : MethodName := ⟨"CardOffice$Multiplier", "signOfNumber", "(III)I"⟩
abbrev b_Multiplier_signOfNumber : ByteArray := prog_8_method_7_code
def r_Multiplier_signOfNumber (c s : Nat) : Room := { frames := 2, cells := c, slots := s, locals := 40 }
theorem d_Multiplier_signOfNumber : decode b_Multiplier_signOfNumber 0 = .ok (.bipush 48, 2) ∧ decode b_Multiplier_signOfNumber 2 = .ok (.iload_n 0, 1) ∧ decode b_Multiplier_signOfNumber 3 = .ok (.getstatic 45, 3) ∧ decode b_Multiplier_signOfNumber 6 = .ok (.iload_n 1, 1) ∧ decode b_Multiplier_signOfNumber 7 = .ok (.invokestatic 63, 3) ∧ decode b_Multiplier_signOfNumber 10 = .ok (.iconst 1, 1) ∧ decode b_Multiplier_signOfNumber 11 = .ok (.isub, 1) ∧ decode b_Multiplier_signOfNumber 12 = .ok (.iload_n 2, 1) ∧ decode b_Multiplier_signOfNumber 13 = .ok (.isub, 1) ∧ decode b_Multiplier_signOfNumber 14 = .ok (.iaload, 1) ∧ decode b_Multiplier_signOfNumber 15 = .ok (.idiv, 1) ∧ decode b_Multiplier_signOfNumber 16 = .ok (.bipush 10, 2) ∧ decode b_Multiplier_signOfNumber 18 = .ok (.irem, 1) ∧ decode b_Multiplier_signOfNumber 19 = .ok (.iadd, 1) ∧ decode b_Multiplier_signOfNumber 20 = .ok (.ireturn, 1) := ⟨by decide +kernel, by decide +kernel, by decide +kernel, by decide +kernel, by decide +kernel, by decide +kernel, by decide +kernel, by decide +kernel, by decide +kernel, by decide +kernel, by decide +kernel, by decide +kernel, by decide +kernel, by decide +kernel, by decide +kernel⟩
theorem s_Multiplier_signOfNumber : Cond.static y_Multiplier_signOfNumber ∈ nm_Ts ∧ Cond.initialized y_Multiplier_signOfNumber.cls ∈ nm_Ts ∧ Cond.code y_Multiplier_signOfNumber b_Multiplier_signOfNumber 3 (some .int) ∈ nm_Ts ∧ mz_cl1 y_Multiplier_signOfNumber 3 := ⟨nm_t3 178 rfl rfl, nm_t1 20 rfl rfl, nm_t3 179 rfl rfl, by decide +kernel⟩
def y_Multiplier_punchNumber : MethodName := ⟨"CardOffice$Multiplier", "punchNumber", "(LCardOffice$Card;II)V"⟩
abbrev b_Multiplier_punchNumber : ByteArray := prog_8_method_6_code
def r_Multiplier_punchNumber (c s : Nat) : Room := { frames := 3, cells := c, slots := s, locals := 62 }
theorem d_Multiplier_punchNumber : decode b_Multiplier_punchNumber 0 = .ok (.iload_n 1, 1) ∧ decode b_Multiplier_punchNumber 1 = .ok (.invokestatic 60, 3) ∧ decode b_Multiplier_punchNumber 4 = .ok (.istore_n 3, 1) ∧ decode b_Multiplier_punchNumber 5 = .ok (.iload_n 3, 1) ∧ decode b_Multiplier_punchNumber 6 = .ok (.iload_n 1, 1) ∧ decode b_Multiplier_punchNumber 7 = .ok (.invokestatic 63, 3) ∧ decode b_Multiplier_punchNumber 10 = .ok (.if_icmp .ge 21, 3) ∧ decode b_Multiplier_punchNumber 13 = .ok (.aload_n 0, 1) ∧ decode b_Multiplier_punchNumber 14 = .ok (.getfield 66, 3) ∧ decode b_Multiplier_punchNumber 17 = .ok (.iload_n 3, 1) ∧ decode b_Multiplier_punchNumber 18 = .ok (.iload_n 2, 1) ∧ decode b_Multiplier_punchNumber 19 = .ok (.iload_n 1, 1) ∧ decode b_Multiplier_punchNumber 20 = .ok (.iload_n 3, 1) ∧ decode b_Multiplier_punchNumber 21 = .ok (.invokestatic 82, 3) ∧ decode b_Multiplier_punchNumber 24 = .ok (.iastore, 1) ∧ decode b_Multiplier_punchNumber 25 = .ok (.iinc 3 1, 3) ∧ decode b_Multiplier_punchNumber 28 = .ok (.goto (-23), 3) ∧ decode b_Multiplier_punchNumber 31 = .ok (.return_, 1) := ⟨by decide +kernel, by decide +kernel, by decide +kernel, by decide +kernel, by decide +kernel, by decide +kernel, by decide +kernel, by decide +kernel, by decide +kernel, by decide +kernel, by decide +kernel, by decide +kernel, by decide +kernel, by decide +kernel, by decide +kernel, by decide +kernel, by decide +kernel, by decide +kernel⟩
theorem s_Multiplier_punchNumber : Cond.static y_Multiplier_punchNumber ∈ nm_Ts ∧ Cond.initialized y_Multiplier_punchNumber.cls ∈ nm_Ts ∧ Cond.code y_Multiplier_punchNumber b_Multiplier_punchNumber 4 none ∈ nm_Ts ∧ mz_cl1 y_Multiplier_punchNumber 3 := ⟨nm_t3 182 rfl rfl, nm_t1 20 rfl rfl, nm_t3 183 rfl rfl, by decide +kernel⟩
def y_Office_tabulate : MethodName := ⟨"CardOffice", "tabulate", "(II)I"⟩
abbrev b_Office_tabulate : ByteArray := prog_1_method_13_code
def r_Office_tabulate (c s : Nat) : Room := { frames := 7, cells := c, slots := s, locals := 165 }
theorem d_Office_tabulate : decode b_Office_tabulate 0 = .ok (.iload_n 1, 1) ∧ decode b_Office_tabulate 1 = .ok (.invokestatic 84, 3) ∧ decode b_Office_tabulate 4 = .ok (.ifCond .eq 10, 3) ∧ decode b_Office_tabulate 7 = .ok (.iload_n 2, 1) ∧ decode b_Office_tabulate 8 = .ok (.invokestatic 62, 3) ∧ decode b_Office_tabulate 11 = .ok (.ifCond .ne 13, 3) ∧ decode b_Office_tabulate 14 = .ok (.new 109, 3) ∧ decode b_Office_tabulate 17 = .ok (.dup, 1) ∧ decode b_Office_tabulate 18 = .ok (.ldc 178, 2) ∧ decode b_Office_tabulate 20 = .ok (.invokespecial 113, 3) ∧ decode b_Office_tabulate 23 = .ok (.athrow, 1) ∧ decode b_Office_tabulate 24 = .ok (.aload_n 0, 1) ∧ decode b_Office_tabulate 25 = .ok (.getfield 56, 3) ∧ decode b_Office_tabulate 28 = .ok (.aload_n 0, 1) ∧ decode b_Office_tabulate 29 = .ok (.getfield 17, 3) ∧ decode b_Office_tabulate 32 = .ok (.iload_n 1, 1) ∧ decode b_Office_tabulate 33 = .ok (.aaload, 1) ∧ decode b_Office_tabulate 34 = .ok (.aload_n 0, 1) ∧ decode b_Office_tabulate 35 = .ok (.getfield 11, 3) ∧ decode b_Office_tabulate 38 = .ok (.iload_n 2, 1) ∧ decode b_Office_tabulate 39 = .ok (.aaload, 1) ∧ decode b_Office_tabulate 40 = .ok (.aload_n 0, 1) ∧ decode b_Office_tabulate 41 = .ok (.getfield 28, 3) ∧ decode b_Office_tabulate 44 = .ok (.invokevirtual 180, 3) ∧ decode b_Office_tabulate 47 = .ok (.ireturn, 1) := ⟨by decide +kernel, by decide +kernel, by decide +kernel, by decide +kernel, by decide +kernel, by decide +kernel, by decide +kernel, by decide +kernel, by decide +kernel, by decide +kernel, by decide +kernel, by decide +kernel, by decide +kernel, by decide +kernel, by decide +kernel, by decide +kernel, by decide +kernel, by decide +kernel, by decide +kernel, by decide +kernel, by decide +kernel, by decide +kernel, by decide +kernel, by decide +kernel, by decide +kernel⟩
theorem v_Office_tabulate : Cond.instanceMethod y_Office_tabulate ∈ nm_Ts ∧ Cond.selects y_Office_tabulate.cls y_Office_tabulate y_Office_tabulate ∈ nm_Ts ∧ Cond.initialized y_Office_tabulate.cls ∈ nm_Ts ∧ Cond.code y_Office_tabulate b_Office_tabulate 3 (some .int) ∈ nm_Ts ∧ mz_cl1 y_Office_tabulate 2 := ⟨nm_t3 190 rfl rfl, nm_t3 191 rfl rfl, nm_t1 1 rfl rfl, nm_t3 192 rfl rfl, by decide +kernel⟩
def y_Tabulator_goThrough : MethodName := ⟨"CardOffice$Tabulator", "goThrough", "(LCardOffice$Board;LCardOffice$Deck;LCardOffice$FaultLight;)I"⟩
abbrev b_Tabulator_goThrough : ByteArray := prog_12_method_2_code
def r_Tabulator_goThrough (c s : Nat) : Room := { frames := 6, cells := c, slots := s, locals := 137 }
theorem d_Tabulator_goThrough : decode b_Tabulator_goThrough 0 = .ok (.aload_n 0, 1) ∧ decode b_Tabulator_goThrough 1 = .ok (.getfield 9, 3) ∧ decode b_Tabulator_goThrough 4 = .ok (.iconst 0, 1) ∧ decode b_Tabulator_goThrough 5 = .ok (.invokestatic 37, 3) ∧ decode b_Tabulator_goThrough 8 = .ok (.aload_n 1, 1) ∧ decode b_Tabulator_goThrough 9 = .ok (.invokevirtual 43, 3) ∧ decode b_Tabulator_goThrough 12 = .ok (.istore 4, 2) ∧ decode b_Tabulator_goThrough 14 = .ok (.iconst 0, 1) ∧ decode b_Tabulator_goThrough 15 = .ok (.istore 5, 2) ∧ decode b_Tabulator_goThrough 17 = .ok (.iload 5, 2) ∧ decode b_Tabulator_goThrough 19 = .ok (.aload_n 2, 1) ∧ decode b_Tabulator_goThrough 20 = .ok (.getfield 49, 3) ∧ decode b_Tabulator_goThrough 23 = .ok (.if_icmp .ge 82, 3) ∧ decode b_Tabulator_goThrough 26 = .ok (.aload_n 2, 1) ∧ decode b_Tabulator_goThrough 27 = .ok (.iload 5, 2) ∧ decode b_Tabulator_goThrough 29 = .ok (.invokevirtual 55, 3) ∧ decode b_Tabulator_goThrough 32 = .ok (.astore 6, 2) ∧ decode b_Tabulator_goThrough 34 = .ok (.iload 5, 2) ∧ decode b_Tabulator_goThrough 36 = .ok (.ifCond .ne 7, 3) ∧ decode b_Tabulator_goThrough 39 = .ok (.iconst 0, 1) ∧ decode b_Tabulator_goThrough 40 = .ok (.goto 17, 3) ∧ decode b_Tabulator_goThrough 43 = .ok (.aload_n 1, 1) ∧ decode b_Tabulator_goThrough 44 = .ok (.aload_n 2, 1) ∧ decode b_Tabulator_goThrough 45 = .ok (.iload 5, 2) ∧ decode b_Tabulator_goThrough 47 = .ok (.iconst 1, 1) ∧ decode b_Tabulator_goThrough 48 = .ok (.isub, 1) ∧ decode b_Tabulator_goThrough 49 = .ok (.invokevirtual 55, 3) ∧ decode b_Tabulator_goThrough 52 = .ok (.aload 6, 2) ∧ decode b_Tabulator_goThrough 54 = .ok (.invokevirtual 59, 3) ∧ decode b_Tabulator_goThrough 57 = .ok (.istore 7, 2) ∧ decode b_Tabulator_goThrough 59 = .ok (.aload_n 0, 1) ∧ decode b_Tabulator_goThrough 60 = .ok (.aload_n 1, 1) ∧ decode b_Tabulator_goThrough 61 = .ok (.aload 6, 2) ∧ decode b_Tabulator_goThrough 63 = .ok (.iload 7, 2) ∧ decode b_Tabulator_goThrough 65 = .ok (.iload 4, 2) ∧ decode b_Tabulator_goThrough 67 = .ok (.invokevirtual 63, 3) ∧ decode b_Tabulator_goThrough 70 = .ok (.istore 8, 2) ∧ decode b_Tabulator_goThrough 72 = .ok (.iload 8, 2) ∧ decode b_Tabulator_goThrough 74 = .ok (.ifCond .eq 12, 3) ∧ decode b_Tabulator_goThrough 77 = .ok (.aload_n 3, 1) ∧ decode b_Tabulator_goThrough 78 = .ok (.iload 8, 2) ∧ decode b_Tabulator_goThrough 80 = .ok (.iload 5, 2) ∧ decode b_Tabulator_goThrough 82 = .ok (.invokevirtual 67, 3) ∧ decode b_Tabulator_goThrough 85 = .ok (.ireturn, 1) ∧ decode b_Tabulator_goThrough 86 = .ok (.aload_n 0, 1) ∧ decode b_Tabulator_goThrough 87 = .ok (.aload_n 1, 1) ∧ decode b_Tabulator_goThrough 88 = .ok (.iload 7, 2) ∧ decode b_Tabulator_goThrough 90 = .ok (.invokevirtual 73, 3) ∧ decode b_Tabulator_goThrough 93 = .ok (.aload_n 0, 1) ∧ decode b_Tabulator_goThrough 94 = .ok (.iload 4, 2) ∧ decode b_Tabulator_goThrough 96 = .ok (.invokevirtual 77, 3) ∧ decode b_Tabulator_goThrough 99 = .ok (.iinc 5 1, 3) ∧ decode b_Tabulator_goThrough 102 = .ok (.goto (-85), 3) ∧ decode b_Tabulator_goThrough 105 = .ok (.aload_n 0, 1) ∧ decode b_Tabulator_goThrough 106 = .ok (.aload_n 1, 1) ∧ decode b_Tabulator_goThrough 107 = .ok (.aload_n 2, 1) ∧ decode b_Tabulator_goThrough 108 = .ok (.getfield 49, 3) ∧ decode b_Tabulator_goThrough 111 = .ok (.aload_n 3, 1) ∧ decode b_Tabulator_goThrough 112 = .ok (.invokevirtual 81, 3) ∧ decode b_Tabulator_goThrough 115 = .ok (.ireturn, 1) := ⟨by decide +kernel, by decide +kernel, by decide +kernel, by decide +kernel, by decide +kernel, by decide +kernel, by decide +kernel, by decide +kernel, by decide +kernel, by decide +kernel, by decide +kernel, by decide +kernel, by decide +kernel, by decide +kernel, by decide +kernel, by decide +kernel, by decide +kernel, by decide +kernel, by decide +kernel, by decide +kernel, by decide +kernel, by decide +kernel, by decide +kernel, by decide +kernel, by decide +kernel, by decide +kernel, by decide +kernel, by decide +kernel, by decide +kernel, by decide +kernel, by decide +kernel, by decide +kernel, by decide +kernel, by decide +kernel, by decide +kernel, by decide +kernel, by decide +kernel, by decide +kernel, by decide +kernel, by decide +kernel, by decide +kernel, by decide +kernel, by decide +kernel, by decide +kernel, by decide +kernel, by decide +kernel, by decide +kernel, by decide +kernel, by decide +kernel, by decide +kernel, by decide +kernel, by decide +kernel, by decide +kernel, by decide +kernel, by decide +kernel, by decide +kernel, by decide +kernel, by decide +kernel, by decide +kernel, by decide +kernel⟩
theorem v_Tabulator_goThrough : Cond.instanceMethod y_Tabulator_goThrough ∈ nm_Ts ∧ Cond.selects y_Tabulator_goThrough.cls y_Tabulator_goThrough y_Tabulator_goThrough ∈ nm_Ts ∧ Cond.initialized y_Tabulator_goThrough.cls ∈ nm_Ts ∧ Cond.code y_Tabulator_goThrough b_Tabulator_goThrough 9 (some .int) ∈ nm_Ts ∧ mz_cl1 y_Tabulator_goThrough 3 := ⟨nm_t3 195 rfl rfl, nm_t3 196 rfl rfl, nm_t1 8 rfl rfl, nm_t3 197 rfl rfl, by decide +kernel⟩
def y_Board_isListing : MethodName := ⟨"CardOffice$Board", "isListing", "()Z"⟩
abbrev b_Board_isListing : ByteArray := prog_2_method_12_code
def r_Board_isListing (c s : Nat) : Room := { frames := 0, cells := c, slots := s, locals := 0 }
theorem d_Board_isListing : decode b_Board_isListing 0 = .ok (.iconst 0, 1) ∧ decode b_Board_isListing 1 = .ok (.istore_n 1, 1) ∧ decode b_Board_isListing 2 = .ok (.iload_n 1, 1) ∧ decode b_Board_isListing 3 = .ok (.aload_n 0, 1) ∧ decode b_Board_isListing 4 = .ok (.getfield 27, 3) ∧ decode b_Board_isListing 7 = .ok (.if_icmp .ge 22, 3) ∧ decode b_Board_isListing 10 = .ok (.aload_n 0, 1) ∧ decode b_Board_isListing 11 = .ok (.getfield 15, 3) ∧ decode b_Board_isListing 14 = .ok (.iload_n 1, 1) ∧ decode b_Board_isListing 15 = .ok (.iaload, 1) ∧ decode b_Board_isListing 16 = .ok (.bipush 99, 2) ∧ decode b_Board_isListing 18 = .ok (.if_icmp .ne 5, 3) ∧ decode b_Board_isListing 21 = .ok (.iconst 1, 1) ∧ decode b_Board_isListing 22 = .ok (.ireturn, 1) ∧ decode b_Board_isListing 23 = .ok (.iinc 1 1, 3) ∧ decode b_Board_isListing 26 = .ok (.goto (-24), 3) ∧ decode b_Board_isListing 29 = .ok (.iconst 0, 1) ∧ decode b_Board_isListing 30 = .ok (.ireturn, 1) := ⟨by decide +kernel, by decide +kernel, by decide +kernel, by decide +kernel, by decide +kernel, by decide +kernel, by decide +kernel, by decide +kernel, by decide +kernel, by decide +kernel, by decide +kernel, by decide +kernel, by decide +kernel, by decide +kernel, by decide +kernel, by decide +kernel, by decide +kernel, by decide +kernel⟩
theorem v_Board_isListing : Cond.instanceMethod y_Board_isListing ∈ nm_Ts ∧ Cond.selects y_Board_isListing.cls y_Board_isListing y_Board_isListing ∈ nm_Ts ∧ Cond.initialized y_Board_isListing.cls ∈ nm_Ts ∧ Cond.code y_Board_isListing b_Board_isListing 2 (some .boolean) ∈ nm_Ts ∧ mz_cl1 y_Board_isListing 0 := ⟨nm_t3 200 rfl rfl, nm_t3 201 rfl rfl, nm_t1 10 rfl rfl, nm_t3 202 rfl rfl, by decide +kernel⟩
def y_Board_levelsBroken : MethodName := ⟨"CardOffice$Board", "levelsBroken", "(LCardOffice$Card;LCardOffice$Card;)I"⟩
abbrev b_Board_levelsBroken : ByteArray := prog_2_method_11_code
def r_Board_levelsBroken (c s : Nat) : Room := { frames := 1, cells := c, slots := s, locals := 21 }
theorem d_Board_levelsBroken : decode b_Board_levelsBroken 0 = .ok (.iconst 0, 1) ∧ decode b_Board_levelsBroken 1 = .ok (.istore_n 3, 1) ∧ decode b_Board_levelsBroken 2 = .ok (.iconst 0, 1) ∧ decode b_Board_levelsBroken 3 = .ok (.istore 4, 2) ∧ decode b_Board_levelsBroken 5 = .ok (.iload 4, 2) ∧ decode b_Board_levelsBroken 7 = .ok (.aload_n 0, 1) ∧ decode b_Board_levelsBroken 8 = .ok (.getfield 27, 3) ∧ decode b_Board_levelsBroken 11 = .ok (.if_icmp .ge 101, 3) ∧ decode b_Board_levelsBroken 14 = .ok (.aload_n 0, 1) ∧ decode b_Board_levelsBroken 15 = .ok (.getfield 15, 3) ∧ decode b_Board_levelsBroken 18 = .ok (.iload 4, 2) ∧ decode b_Board_levelsBroken 20 = .ok (.iaload, 1) ∧ decode b_Board_levelsBroken 21 = .ok (.bipush 96, 2) ∧ decode b_Board_levelsBroken 23 = .ok (.if_icmp .lt 19, 3) ∧ decode b_Board_levelsBroken 26 = .ok (.aload_n 0, 1) ∧ decode b_Board_levelsBroken 27 = .ok (.getfield 15, 3) ∧ decode b_Board_levelsBroken 30 = .ok (.iload 4, 2) ∧ decode b_Board_levelsBroken 32 = .ok (.iaload, 1) ∧ decode b_Board_levelsBroken 33 = .ok (.bipush 99, 2) ∧ decode b_Board_levelsBroken 35 = .ok (.if_icmp .ge 7, 3) ∧ decode b_Board_levelsBroken 38 = .ok (.iconst 1, 1) ∧ decode b_Board_levelsBroken 39 = .ok (.goto 4, 3) ∧ decode b_Board_levelsBroken 42 = .ok (.iconst 0, 1) ∧ decode b_Board_levelsBroken 43 = .ok (.istore 5, 2) ∧ decode b_Board_levelsBroken 45 = .ok (.iload 5, 2) ∧ decode b_Board_levelsBroken 47 = .ok (.ifCond .eq 59, 3) ∧ decode b_Board_levelsBroken 50 = .ok (.aload_n 0, 1) ∧ decode b_Board_levelsBroken 51 = .ok (.getfield 9, 3) ∧ decode b_Board_levelsBroken 54 = .ok (.iload 4, 2) ∧ decode b_Board_levelsBroken 56 = .ok (.iaload, 1) ∧ decode b_Board_levelsBroken 57 = .ok (.bipush 16, 2) ∧ decode b_Board_levelsBroken 59 = .ok (.if_icmp .ge 47, 3) ∧ decode b_Board_levelsBroken 62 = .ok (.aload_n 2, 1) ∧ decode b_Board_levelsBroken 63 = .ok (.getfield 35, 3) ∧ decode b_Board_levelsBroken 66 = .ok (.aload_n 0, 1) ∧ decode b_Board_levelsBroken 67 = .ok (.getfield 9, 3) ∧ decode b_Board_levelsBroken 70 = .ok (.iload 4, 2) ∧ decode b_Board_levelsBroken 72 = .ok (.iaload, 1) ∧ decode b_Board_levelsBroken 73 = .ok (.iaload, 1) ∧ decode b_Board_levelsBroken 74 = .ok (.aload_n 1, 1) ∧ decode b_Board_levelsBroken 75 = .ok (.getfield 35, 3) ∧ decode b_Board_levelsBroken 78 = .ok (.aload_n 0, 1) ∧ decode b_Board_levelsBroken 79 = .ok (.getfield 9, 3) ∧ decode b_Board_levelsBroken 82 = .ok (.iload 4, 2) ∧ decode b_Board_levelsBroken 84 = .ok (.iaload, 1) ∧ decode b_Board_levelsBroken 85 = .ok (.iaload, 1) ∧ decode b_Board_levelsBroken 86 = .ok (.if_icmp .eq 20, 3) ∧ decode b_Board_levelsBroken 89 = .ok (.iload_n 3, 1) ∧ decode b_Board_levelsBroken 90 = .ok (.aload_n 0, 1) ∧ decode b_Board_levelsBroken 91 = .ok (.getfield 15, 3) ∧ decode b_Board_levelsBroken 94 = .ok (.iload 4, 2) ∧ decode b_Board_levelsBroken 96 = .ok (.iaload, 1) ∧ decode b_Board_levelsBroken 97 = .ok (.bipush 96, 2) ∧ decode b_Board_levelsBroken 99 = .ok (.isub, 1) ∧ decode b_Board_levelsBroken 100 = .ok (.iconst 1, 1) ∧ decode b_Board_levelsBroken 101 = .ok (.iadd, 1) ∧ decode b_Board_levelsBroken 102 = .ok (.invokestatic 70, 3) ∧ decode b_Board_levelsBroken 105 = .ok (.istore_n 3, 1) ∧ decode b_Board_levelsBroken 106 = .ok (.iinc 4 1, 3) ∧ decode b_Board_levelsBroken 109 = .ok (.goto (-104), 3) ∧ decode b_Board_levelsBroken 112 = .ok (.iload_n 3, 1) ∧ decode b_Board_levelsBroken 113 = .ok (.ireturn, 1) := ⟨by decide +kernel, by decide +kernel, by decide +kernel, by decide +kernel, by decide +kernel, by decide +kernel, by decide +kernel, by decide +kernel, by decide +kernel, by decide +kernel, by decide +kernel, by decide +kernel, by decide +kernel, by decide +kernel, by decide +kernel, by decide +kernel, by decide +kernel, by decide +kernel, by decide +kernel, by decide +kernel, by decide +kernel, by decide +kernel, by decide +kernel, by decide +kernel, by decide +kernel, by decide +kernel, by decide +kernel, by decide +kernel, by decide +kernel, by decide +kernel, by decide +kernel, by decide +kernel, by decide +kernel, by decide +kernel, by decide +kernel, by decide +kernel, by decide +kernel, by decide +kernel, by decide +kernel, by decide +kernel, by decide +kernel, by decide +kernel, by decide +kernel, by decide +kernel, by decide +kernel, by decide +kernel, by decide +kernel, by decide +kernel, by decide +kernel, by decide +kernel, by decide +kernel, by decide +kernel, by decide +kernel, by decide +kernel, by decide +kernel, by decide +kernel, by decide +kernel, by decide +kernel, by decide +kernel, by decide +kernel, by decide +kernel, by decide +kernel⟩
theorem v_Board_levelsBroken : Cond.instanceMethod y_Board_levelsBroken ∈ nm_Ts ∧ Cond.selects y_Board_levelsBroken.cls y_Board_levelsBroken y_Board_levelsBroken ∈ nm_Ts ∧ Cond.initialized y_Board_levelsBroken.cls ∈ nm_Ts ∧ Cond.code y_Board_levelsBroken b_Board_levelsBroken 6 (some .int) ∈ nm_Ts ∧ mz_cl1 y_Board_levelsBroken 2 := ⟨nm_t3 205 rfl rfl, nm_t3 206 rfl rfl, nm_t1 10 rfl rfl, nm_t3 207 rfl rfl, by decide +kernel⟩
def y_Tabulator_faultOfCard : MethodName := ⟨"CardOffice$Tabulator", "faultOfCard", "(LCardOffice$Board;LCardOffice$Card;IZ)I"⟩
abbrev b_Tabulator_faultOfCard : ByteArray := prog_12_method_4_code
def r_Tabulator_faultOfCard (c s : Nat) : Room := { frames := 4, cells := c, slots := s, locals := 92 }
theorem d_Tabulator_faultOfCard : decode b_Tabulator_faultOfCard 0 = .ok (.aload_n 1, 1) ∧ decode b_Tabulator_faultOfCard 1 = .ok (.aload_n 2, 1) ∧ decode b_Tabulator_faultOfCard 2 = .ok (.aload_n 0, 1) ∧ decode b_Tabulator_faultOfCard 3 = .ok (.getfield 31, 3) ∧ decode b_Tabulator_faultOfCard 6 = .ok (.invokevirtual 93, 3) ∧ decode b_Tabulator_faultOfCard 9 = .ok (.aload_n 1, 1) ∧ decode b_Tabulator_faultOfCard 10 = .ok (.aload_n 2, 1) ∧ decode b_Tabulator_faultOfCard 11 = .ok (.aload_n 0, 1) ∧ decode b_Tabulator_faultOfCard 12 = .ok (.getfield 34, 3) ∧ decode b_Tabulator_faultOfCard 15 = .ok (.invokevirtual 93, 3) ∧ decode b_Tabulator_faultOfCard 18 = .ok (.aload_n 0, 1) ∧ decode b_Tabulator_faultOfCard 19 = .ok (.aload_n 1, 1) ∧ decode b_Tabulator_faultOfCard 20 = .ok (.iload_n 3, 1) ∧ decode b_Tabulator_faultOfCard 21 = .ok (.invokevirtual 97, 3) ∧ decode b_Tabulator_faultOfCard 24 = .ok (.ifCond .ne 28, 3) ∧ decode b_Tabulator_faultOfCard 27 = .ok (.iload 4, 2) ∧ decode b_Tabulator_faultOfCard 29 = .ok (.ifCond .eq 13, 3) ∧ decode b_Tabulator_faultOfCard 32 = .ok (.aload_n 0, 1) ∧ decode b_Tabulator_faultOfCard 33 = .ok (.getfield 31, 3) ∧ decode b_Tabulator_faultOfCard 36 = .ok (.getfield 101, 3) ∧ decode b_Tabulator_faultOfCard 39 = .ok (.ifCond .ne 13, 3) ∧ decode b_Tabulator_faultOfCard 42 = .ok (.aload_n 0, 1) ∧ decode b_Tabulator_faultOfCard 43 = .ok (.getfield 34, 3) ∧ decode b_Tabulator_faultOfCard 46 = .ok (.getfield 101, 3) ∧ decode b_Tabulator_faultOfCard 49 = .ok (.ifCond .eq 5, 3) ∧ decode b_Tabulator_faultOfCard 52 = .ok (.iconst 2, 1) ∧ decode b_Tabulator_faultOfCard 53 = .ok (.ireturn, 1) ∧ decode b_Tabulator_faultOfCard 54 = .ok (.aload_n 0, 1) ∧ decode b_Tabulator_faultOfCard 55 = .ok (.aload_n 1, 1) ∧ decode b_Tabulator_faultOfCard 56 = .ok (.iload_n 3, 1) ∧ decode b_Tabulator_faultOfCard 57 = .ok (.invokevirtual 105, 3) ∧ decode b_Tabulator_faultOfCard 60 = .ok (.ifCond .eq 5, 3) ∧ decode b_Tabulator_faultOfCard 63 = .ok (.iconst 3, 1) ∧ decode b_Tabulator_faultOfCard 64 = .ok (.ireturn, 1) ∧ decode b_Tabulator_faultOfCard 65 = .ok (.aload_n 1, 1) ∧ decode b_Tabulator_faultOfCard 66 = .ok (.iload_n 3, 1) ∧ decode b_Tabulator_faultOfCard 67 = .ok (.invokestatic 108, 3) ∧ decode b_Tabulator_faultOfCard 70 = .ok (.iload 4, 2) ∧ decode b_Tabulator_faultOfCard 72 = .ok (.ifCond .eq 7, 3) ∧ decode b_Tabulator_faultOfCard 75 = .ok (.iconst 1, 1) ∧ decode b_Tabulator_faultOfCard 76 = .ok (.goto 4, 3) ∧ decode b_Tabulator_faultOfCard 79 = .ok (.iconst 0, 1) ∧ decode b_Tabulator_faultOfCard 80 = .ok (.iadd, 1) ∧ decode b_Tabulator_faultOfCard 81 = .ok (.istore 5, 2) ∧ decode b_Tabulator_faultOfCard 83 = .ok (.aload_n 0, 1) ∧ decode b_Tabulator_faultOfCard 84 = .ok (.getfield 18, 3) ∧ decode b_Tabulator_faultOfCard 87 = .ok (.iload 5, 2) ∧ decode b_Tabulator_faultOfCard 89 = .ok (.invokevirtual 112, 3) ∧ decode b_Tabulator_faultOfCard 92 = .ok (.ifCond .eq 7, 3) ∧ decode b_Tabulator_faultOfCard 95 = .ok (.iconst 0, 1) ∧ decode b_Tabulator_faultOfCard 96 = .ok (.goto 4, 3) ∧ decode b_Tabulator_faultOfCard 99 = .ok (.iconst 4, 1) ∧ decode b_Tabulator_faultOfCard 100 = .ok (.ireturn, 1) := ⟨by decide +kernel, by decide +kernel, by decide +kernel, by decide +kernel, by decide +kernel, by decide +kernel, by decide +kernel, by decide +kernel, by decide +kernel, by decide +kernel, by decide +kernel, by decide +kernel, by decide +kernel, by decide +kernel, by decide +kernel, by decide +kernel, by decide +kernel, by decide +kernel, by decide +kernel, by decide +kernel, by decide +kernel, by decide +kernel, by decide +kernel, by decide +kernel, by decide +kernel, by decide +kernel, by decide +kernel, by decide +kernel, by decide +kernel, by decide +kernel, by decide +kernel, by decide +kernel, by decide +kernel, by decide +kernel, by decide +kernel, by decide +kernel, by decide +kernel, by decide +kernel, by decide +kernel, by decide +kernel, by decide +kernel, by decide +kernel, by decide +kernel, by decide +kernel, by decide +kernel, by decide +kernel, by decide +kernel, by decide +kernel, by decide +kernel, by decide +kernel, by decide +kernel, by decide +kernel, by decide +kernel⟩
theorem v_Tabulator_faultOfCard : Cond.instanceMethod y_Tabulator_faultOfCard ∈ nm_Ts ∧ Cond.selects y_Tabulator_faultOfCard.cls y_Tabulator_faultOfCard y_Tabulator_faultOfCard ∈ nm_Ts ∧ Cond.initialized y_Tabulator_faultOfCard.cls ∈ nm_Ts ∧ Cond.code y_Tabulator_faultOfCard b_Tabulator_faultOfCard 6 (some .int) ∈ nm_Ts ∧ mz_cl1 y_Tabulator_faultOfCard 4 := ⟨nm_t3 211 rfl rfl, nm_s 10 rfl rfl, nm_t1 8 rfl rfl, nm_t3 212 rfl rfl, by decide +kernel⟩
def y_Tabulator_totalsClash : MethodName := ⟨"CardOffice$Tabulator", "totalsClash", "(LCardOffice$Board;I)Z"⟩
abbrev b_Tabulator_totalsClash : ByteArray := prog_12_method_6_code
def r_Tabulator_totalsClash (c s : Nat) : Room := { frames := 3, cells := c, slots := s, locals := 69 }
theorem d_Tabulator_totalsClash : decode b_Tabulator_totalsClash 0 = .ok (.iconst 0, 1) ∧ decode b_Tabulator_totalsClash 1 = .ok (.istore_n 3, 1) ∧ decode b_Tabulator_totalsClash 2 = .ok (.iload_n 3, 1) ∧ decode b_Tabulator_totalsClash 3 = .ok (.iload_n 2, 1) ∧ decode b_Tabulator_totalsClash 4 = .ok (.if_icmp .ge 34, 3) ∧ decode b_Tabulator_totalsClash 7 = .ok (.aload_n 1, 1) ∧ decode b_Tabulator_totalsClash 8 = .ok (.aload_n 0, 1) ∧ decode b_Tabulator_totalsClash 9 = .ok (.getfield 9, 3) ∧ decode b_Tabulator_totalsClash 12 = .ok (.iload_n 3, 1) ∧ decode b_Tabulator_totalsClash 13 = .ok (.aload_n 0, 1) ∧ decode b_Tabulator_totalsClash 14 = .ok (.getfield 27, 3) ∧ decode b_Tabulator_totalsClash 17 = .ok (.invokevirtual 116, 3) ∧ decode b_Tabulator_totalsClash 20 = .ok (.aload_n 0, 1) ∧ decode b_Tabulator_totalsClash 21 = .ok (.getfield 27, 3) ∧ decode b_Tabulator_totalsClash 24 = .ok (.getfield 101, 3) ∧ decode b_Tabulator_totalsClash 27 = .ok (.ifCond .eq 5, 3) ∧ decode b_Tabulator_totalsClash 30 = .ok (.iconst 1, 1) ∧ decode b_Tabulator_totalsClash 31 = .ok (.ireturn, 1) ∧ decode b_Tabulator_totalsClash 32 = .ok (.iinc 3 1, 3) ∧ decode b_Tabulator_totalsClash 35 = .ok (.goto (-33), 3) ∧ decode b_Tabulator_totalsClash 38 = .ok (.iconst 0, 1) ∧ decode b_Tabulator_totalsClash 39 = .ok (.ireturn, 1) := ⟨by decide +kernel, by decide +kernel, by decide +kernel, by decide +kernel, by decide +kernel, by decide +kernel, by decide +kernel, by decide +kernel, by decide +kernel, by decide +kernel, by decide +kernel, by decide +kernel, by decide +kernel, by decide +kernel, by decide +kernel, by decide +kernel, by decide +kernel, by decide +kernel, by decide +kernel, by decide +kernel, by decide +kernel, by decide +kernel⟩
theorem v_Tabulator_totalsClash : Cond.instanceMethod y_Tabulator_totalsClash ∈ nm_Ts ∧ Cond.selects y_Tabulator_totalsClash.cls y_Tabulator_totalsClash y_Tabulator_totalsClash ∈ nm_Ts ∧ Cond.initialized y_Tabulator_totalsClash.cls ∈ nm_Ts ∧ Cond.code y_Tabulator_totalsClash b_Tabulator_totalsClash 4 (some .boolean) ∈ nm_Ts ∧ mz_cl1 y_Tabulator_totalsClash 2 := ⟨nm_t3 216 rfl rfl, nm_s 11 rfl rfl, nm_t1 8 rfl rfl, nm_t3 217 rfl rfl, by decide +kernel⟩
def y_Board_bringFromCounters : MethodName := ⟨"CardOffice$Board", "bringFromCounters", "([IILCardOffice$Jacks;)V"⟩
abbrev b_Board_bringFromCounters : ByteArray := prog_2_method_8_code
def r_Board_bringFromCounters (c s : Nat) : Room := { frames := 2, cells := c, slots := s, locals := 43 }
theorem d_Board_bringFromCounters : decode b_Board_bringFromCounters 0 = .ok (.aload_n 3, 1) ∧ decode b_Board_bringFromCounters 1 = .ok (.invokevirtual 40, 3) ∧ decode b_Board_bringFromCounters 4 = .ok (.iconst 0, 1) ∧ decode b_Board_bringFromCounters 5 = .ok (.istore 4, 2) ∧ decode b_Board_bringFromCounters 7 = .ok (.iload 4, 2) ∧ decode b_Board_bringFromCounters 9 = .ok (.aload_n 0, 1) ∧ decode b_Board_bringFromCounters 10 = .ok (.getfield 27, 3) ∧ decode b_Board_bringFromCounters 13 = .ok (.if_icmp .ge 85, 3) ∧ decode b_Board_bringFromCounters 16 = .ok (.aload_n 0, 1) ∧ decode b_Board_bringFromCounters 17 = .ok (.iload 4, 2) ∧ decode b_Board_bringFromCounters 19 = .ok (.invokevirtual 45, 3) ∧ decode b_Board_bringFromCounters 22 = .ok (.ifCond .eq 70, 3) ∧ decode b_Board_bringFromCounters 25 = .ok (.aload_n 3, 1) ∧ decode b_Board_bringFromCounters 26 = .ok (.aload_n 0, 1) ∧ decode b_Board_bringFromCounters 27 = .ok (.getfield 15, 3) ∧ decode b_Board_bringFromCounters 30 = .ok (.iload 4, 2) ∧ decode b_Board_bringFromCounters 32 = .ok (.iaload, 1) ∧ decode b_Board_bringFromCounters 33 = .ok (.invokevirtual 49, 3) ∧ decode b_Board_bringFromCounters 36 = .ok (.ifCond .eq 56, 3) ∧ decode b_Board_bringFromCounters 39 = .ok (.aload_n 0, 1) ∧ decode b_Board_bringFromCounters 40 = .ok (.getfield 9, 3) ∧ decode b_Board_bringFromCounters 43 = .ok (.iload 4, 2) ∧ decode b_Board_bringFromCounters 45 = .ok (.iaload, 1) ∧ decode b_Board_bringFromCounters 46 = .ok (.bipush 32, 2) ∧ decode b_Board_bringFromCounters 48 = .ok (.isub, 1) ∧ decode b_Board_bringFromCounters 49 = .ok (.istore 5, 2) ∧ decode b_Board_bringFromCounters 51 = .ok (.iload 5, 2) ∧ decode b_Board_bringFromCounters 53 = .ok (.bipush 6, 2) ∧ decode b_Board_bringFromCounters 55 = .ok (.idiv, 1) ∧ decode b_Board_bringFromCounters 56 = .ok (.istore 6, 2) ∧ decode b_Board_bringFromCounters 58 = .ok (.aload_n 0, 1) ∧ decode b_Board_bringFromCounters 59 = .ok (.getfield 18, 3) ∧ decode b_Board_bringFromCounters 62 = .ok (.iload 6, 2) ∧ decode b_Board_bringFromCounters 64 = .ok (.iaload, 1) ∧ decode b_Board_bringFromCounters 65 = .ok (.iload_n 2, 1) ∧ decode b_Board_bringFromCounters 66 = .ok (.if_icmp .ne 26, 3) ∧ decode b_Board_bringFromCounters 69 = .ok (.aload_n 3, 1) ∧ decode b_Board_bringFromCounters 70 = .ok (.aload_n 0, 1) ∧ decode b_Board_bringFromCounters 71 = .ok (.getfield 15, 3) ∧ decode b_Board_bringFromCounters 74 = .ok (.iload 4, 2) ∧ decode b_Board_bringFromCounters 76 = .ok (.iaload, 1) ∧ decode b_Board_bringFromCounters 77 = .ok (.aload_n 1, 1) ∧ decode b_Board_bringFromCounters 78 = .ok (.iload 6, 2) ∧ decode b_Board_bringFromCounters 80 = .ok (.iaload, 1) ∧ decode b_Board_bringFromCounters 81 = .ok (.iload 5, 2) ∧ decode b_Board_bringFromCounters 83 = .ok (.bipush 6, 2) ∧ decode b_Board_bringFromCounters 85 = .ok (.irem, 1) ∧ decode b_Board_bringFromCounters 86 = .ok (.invokestatic 60, 3) ∧ decode b_Board_bringFromCounters 89 = .ok (.invokevirtual 56, 3) ∧ decode b_Board_bringFromCounters 92 = .ok (.iinc 4 1, 3) ∧ decode b_Board_bringFromCounters 95 = .ok (.goto (-88), 3) ∧ decode b_Board_bringFromCounters 98 = .ok (.return_, 1) := ⟨by decide +kernel, by decide +kernel, by decide +kernel, by decide +kernel, by decide +kernel, by decide +kernel, by decide +kernel, by decide +kernel, by decide +kernel, by decide +kernel, by decide +kernel, by decide +kernel, by decide +kernel, by decide +kernel, by decide +kernel, by decide +kernel, by decide +kernel, by decide +kernel, by decide +kernel, by decide +kernel, by decide +kernel, by decide +kernel, by decide +kernel, by decide +kernel, by decide +kernel, by decide +kernel, by decide +kernel, by decide +kernel, by decide +kernel, by decide +kernel, by decide +kernel, by decide +kernel, by decide +kernel, by decide +kernel, by decide +kernel, by decide +kernel, by decide +kernel, by decide +kernel, by decide +kernel, by decide +kernel, by decide +kernel, by decide +kernel, by decide +kernel, by decide +kernel, by decide +kernel, by decide +kernel, by decide +kernel, by decide +kernel, by decide +kernel, by decide +kernel, by decide +kernel, by decide +kernel⟩
theorem v_Board_bringFromCounters : Cond.instanceMethod y_Board_bringFromCounters ∈ nm_Ts ∧ Cond.selects y_Board_bringFromCounters.cls y_Board_bringFromCounters y_Board_bringFromCounters ∈ nm_Ts ∧ Cond.initialized y_Board_bringFromCounters.cls ∈ nm_Ts ∧ Cond.code y_Board_bringFromCounters b_Board_bringFromCounters 7 none ∈ nm_Ts ∧ mz_cl1 y_Board_bringFromCounters 3 := ⟨nm_t3 219 rfl rfl, nm_t3 220 rfl rfl, nm_t1 10 rfl rfl, nm_t3 221 rfl rfl, by decide +kernel⟩
def y_Board_wheelSign : MethodName := ⟨"CardOffice$Board", "wheelSign", "(II)I"⟩
abbrev b_Board_wheelSign : ByteArray := prog_2_method_9_code
def r_Board_wheelSign (c s : Nat) : Room := { frames := 0, cells := c, slots := s, locals := 0 }
theorem d_Board_wheelSign : decode b_Board_wheelSign 0 = .ok (.iload_n 0, 1) ∧ decode b_Board_wheelSign 1 = .ok (.getstatic 64, 3) ∧ decode b_Board_wheelSign 4 = .ok (.iload_n 1, 1) ∧ decode b_Board_wheelSign 5 = .ok (.iaload, 1) ∧ decode b_Board_wheelSign 6 = .ok (.idiv, 1) ∧ decode b_Board_wheelSign 7 = .ok (.istore_n 2, 1) ∧ decode b_Board_wheelSign 8 = .ok (.iload_n 2, 1) ∧ decode b_Board_wheelSign 9 = .ok (.ifCond .ne 12, 3) ∧ decode b_Board_wheelSign 12 = .ok (.iload_n 1, 1) ∧ decode b_Board_wheelSign 13 = .ok (.ifCond .le 8, 3) ∧ decode b_Board_wheelSign 16 = .ok (.bipush 32, 2) ∧ decode b_Board_wheelSign 18 = .ok (.goto 10, 3) ∧ decode b_Board_wheelSign 21 = .ok (.bipush 48, 2) ∧ decode b_Board_wheelSign 23 = .ok (.iload_n 2, 1) ∧ decode b_Board_wheelSign 24 = .ok (.bipush 10, 2) ∧ decode b_Board_wheelSign 26 = .ok (.irem, 1) ∧ decode b_Board_wheelSign 27 = .ok (.iadd, 1) ∧ decode b_Board_wheelSign 28 = .ok (.ireturn, 1) := ⟨by decide +kernel, by decide +kernel, by decide +kernel, by decide +kernel, by decide +kernel, by decide +kernel, by decide +kernel, by decide +kernel, by decide +kernel, by decide +kernel, by decide +kernel, by decide +kernel, by decide +kernel, by decide +kernel, by decide +kernel, by decide +kernel, by decide +kernel, by decide +kernel⟩
theorem s_Board_wheelSign : Cond.static y_Board_wheelSign ∈ nm_Ts ∧ Cond.initialized y_Board_wheelSign.cls ∈ nm_Ts ∧ Cond.code y_Board_wheelSign b_Board_wheelSign 3 (some .int) ∈ nm_Ts ∧ mz_cl1 y_Board_wheelSign 2 := ⟨nm_t3 223 rfl rfl, nm_t1 10 rfl rfl, nm_t3 224 rfl rfl, by decide +kernel⟩
def y_Tabulator_isAnyOverrun : MethodName := ⟨"CardOffice$Tabulator", "isAnyOverrun", "(LCardOffice$Board;I)Z"⟩
abbrev b_Tabulator_isAnyOverrun : ByteArray := prog_12_method_7_code
def r_Tabulator_isAnyOverrun (c s : Nat) : Room := { frames := 2, cells := c, slots := s, locals := 45 }
theorem d_Tabulator_isAnyOverrun : decode b_Tabulator_isAnyOverrun 0 = .ok (.iconst 0, 1) ∧ decode b_Tabulator_isAnyOverrun 1 = .ok (.istore_n 3, 1) ∧ decode b_Tabulator_isAnyOverrun 2 = .ok (.iload_n 3, 1) ∧ decode b_Tabulator_isAnyOverrun 3 = .ok (.iconst 4, 1) ∧ decode b_Tabulator_isAnyOverrun 4 = .ok (.if_icmp .ge 50, 3) ∧ decode b_Tabulator_isAnyOverrun 7 = .ok (.aload_n 1, 1) ∧ decode b_Tabulator_isAnyOverrun 8 = .ok (.getfield 120, 3) ∧ decode b_Tabulator_isAnyOverrun 11 = .ok (.iload_n 3, 1) ∧ decode b_Tabulator_isAnyOverrun 12 = .ok (.iaload, 1) ∧ decode b_Tabulator_isAnyOverrun 13 = .ok (.iload_n 2, 1) ∧ decode b_Tabulator_isAnyOverrun 14 = .ok (.if_icmp .ge 7, 3) ∧ decode b_Tabulator_isAnyOverrun 17 = .ok (.iconst 0, 1) ∧ decode b_Tabulator_isAnyOverrun 18 = .ok (.goto 9, 3) ∧ decode b_Tabulator_isAnyOverrun 21 = .ok (.aload_n 0, 1) ∧ decode b_Tabulator_isAnyOverrun 22 = .ok (.getfield 9, 3) ∧ decode b_Tabulator_isAnyOverrun 25 = .ok (.iload_n 3, 1) ∧ decode b_Tabulator_isAnyOverrun 26 = .ok (.iaload, 1) ∧ decode b_Tabulator_isAnyOverrun 27 = .ok (.istore 4, 2) ∧ decode b_Tabulator_isAnyOverrun 29 = .ok (.iload 4, 2) ∧ decode b_Tabulator_isAnyOverrun 31 = .ok (.aload_n 0, 1) ∧ decode b_Tabulator_isAnyOverrun 32 = .ok (.iload_n 3, 1) ∧ decode b_Tabulator_isAnyOverrun 33 = .ok (.invokevirtual 123, 3) ∧ decode b_Tabulator_isAnyOverrun 36 = .ok (.iadd, 1) ∧ decode b_Tabulator_isAnyOverrun 37 = .ok (.getstatic 126, 3) ∧ decode b_Tabulator_isAnyOverrun 40 = .ok (.bipush 6, 2) ∧ decode b_Tabulator_isAnyOverrun 42 = .ok (.iaload, 1) ∧ decode b_Tabulator_isAnyOverrun 43 = .ok (.if_icmp .lt 5, 3) ∧ decode b_Tabulator_isAnyOverrun 46 = .ok (.iconst 1, 1) ∧ decode b_Tabulator_isAnyOverrun 47 = .ok (.ireturn, 1) ∧ decode b_Tabulator_isAnyOverrun 48 = .ok (.iinc 3 1, 3) ∧ decode b_Tabulator_isAnyOverrun 51 = .ok (.goto (-49), 3) ∧ decode b_Tabulator_isAnyOverrun 54 = .ok (.iconst 0, 1) ∧ decode b_Tabulator_isAnyOverrun 55 = .ok (.ireturn, 1) := ⟨by decide +kernel, by decide +kernel, by decide +kernel, by decide +kernel, by decide +kernel, by decide +kernel, by decide +kernel, by decide +kernel, by decide +kernel, by decide +kernel, by decide +kernel, by decide +kernel, by decide +kernel, by decide +kernel, by decide +kernel, by decide +kernel, by decide +kernel, by decide +kernel, by decide +kernel, by decide +kernel, by decide +kernel, by decide +kernel, by decide +kernel, by decide +kernel, by decide +kernel, by decide +kernel, by decide +kernel, by decide +kernel, by decide +kernel, by decide +kernel, by decide +kernel, by decide +kernel, by decide +kernel⟩
theorem v_Tabulator_isAnyOverrun : Cond.instanceMethod y_Tabulator_isAnyOverrun ∈ nm_Ts ∧ Cond.selects y_Tabulator_isAnyOverrun.cls y_Tabulator_isAnyOverrun y_Tabulator_isAnyOverrun ∈ nm_Ts ∧ Cond.initialized y_Tabulator_isAnyOverrun.cls ∈ nm_Ts ∧ Cond.code y_Tabulator_isAnyOverrun b_Tabulator_isAnyOverrun 5 (some .boolean) ∈ nm_Ts ∧ mz_cl1 y_Tabulator_isAnyOverrun 2 := ⟨nm_t3 228 rfl rfl, nm_s 12 rfl rfl, nm_t1 8 rfl rfl, nm_t3 229 rfl rfl, by decide +kernel⟩
def y_Tabulator_entered : MethodName := ⟨"CardOffice$Tabulator", "entered", "(I)I"⟩
abbrev b_Tabulator_entered : ByteArray := prog_12_method_8_code
def r_Tabulator_entered (c s : Nat) : Room := { frames := 1, cells := c, slots := s, locals := 21 }
theorem d_Tabulator_entered : decode b_Tabulator_entered 0 = .ok (.iconst 0, 1) ∧ decode b_Tabulator_entered 1 = .ok (.istore_n 2, 1) ∧ decode b_Tabulator_entered 2 = .ok (.iconst 0, 1) ∧ decode b_Tabulator_entered 3 = .ok (.istore_n 3, 1) ∧ decode b_Tabulator_entered 4 = .ok (.iload_n 3, 1) ∧ decode b_Tabulator_entered 5 = .ok (.bipush 6, 2) ∧ decode b_Tabulator_entered 7 = .ok (.if_icmp .ge 42, 3) ∧ decode b_Tabulator_entered 10 = .ok (.aload_n 0, 1) ∧ decode b_Tabulator_entered 11 = .ok (.getfield 34, 3) ∧ decode b_Tabulator_entered 14 = .ok (.iload_n 1, 1) ∧ decode b_Tabulator_entered 15 = .ok (.bipush 6, 2) ∧ decode b_Tabulator_entered 17 = .ok (.imul, 1) ∧ decode b_Tabulator_entered 18 = .ok (.iload_n 3, 1) ∧ decode b_Tabulator_entered 19 = .ok (.iadd, 1) ∧ decode b_Tabulator_entered 20 = .ok (.invokevirtual 129, 3) ∧ decode b_Tabulator_entered 23 = .ok (.istore 4, 2) ∧ decode b_Tabulator_entered 25 = .ok (.iload_n 2, 1) ∧ decode b_Tabulator_entered 26 = .ok (.iload 4, 2) ∧ decode b_Tabulator_entered 28 = .ok (.invokestatic 132, 3) ∧ decode b_Tabulator_entered 31 = .ok (.iconst 0, 1) ∧ decode b_Tabulator_entered 32 = .ok (.invokestatic 135, 3) ∧ decode b_Tabulator_entered 35 = .ok (.getstatic 126, 3) ∧ decode b_Tabulator_entered 38 = .ok (.iload_n 3, 1) ∧ decode b_Tabulator_entered 39 = .ok (.iaload, 1) ∧ decode b_Tabulator_entered 40 = .ok (.imul, 1) ∧ decode b_Tabulator_entered 41 = .ok (.iadd, 1) ∧ decode b_Tabulator_entered 42 = .ok (.istore_n 2, 1) ∧ decode b_Tabulator_entered 43 = .ok (.iinc 3 1, 3) ∧ decode b_Tabulator_entered 46 = .ok (.goto (-42), 3) ∧ decode b_Tabulator_entered 49 = .ok (.iload_n 2, 1) ∧ decode b_Tabulator_entered 50 = .ok (.ireturn, 1) := ⟨by decide +kernel, by decide +kernel, by decide +kernel, by decide +kernel, by decide +kernel, by decide +kernel, by decide +kernel, by decide +kernel, by decide +kernel, by decide +kernel, by decide +kernel, by decide +kernel, by decide +kernel, by decide +kernel, by decide +kernel, by decide +kernel, by decide +kernel, by decide +kernel, by decide +kernel, by decide +kernel, by decide +kernel, by decide +kernel, by decide +kernel, by decide +kernel, by decide +kernel, by decide +kernel, by decide +kernel, by decide +kernel, by decide +kernel, by decide +kernel, by decide +kernel⟩
theorem v_Tabulator_entered : Cond.instanceMethod y_Tabulator_entered ∈ nm_Ts ∧ Cond.selects y_Tabulator_entered.cls y_Tabulator_entered y_Tabulator_entered ∈ nm_Ts ∧ Cond.initialized y_Tabulator_entered.cls ∈ nm_Ts ∧ Cond.code y_Tabulator_entered b_Tabulator_entered 5 (some .int) ∈ nm_Ts ∧ mz_cl1 y_Tabulator_entered 1 := ⟨nm_t3 232 rfl rfl, nm_s 13 rfl rfl, nm_t1 8 rfl rfl, nm_t3 233 rfl rfl, by decide +kernel⟩
def y_Tabulator_totalLines : MethodName := ⟨"CardOffice$Tabulator", "totalLines", "(LCardOffice$Board;I)I"⟩
abbrev b_Tabulator_totalLines : ByteArray := prog_12_method_9_code
def r_Tabulator_totalLines (c s : Nat) : Room := { frames := 1, cells := c, slots := s, locals := 22 }
theorem d_Tabulator_totalLines : decode b_Tabulator_totalLines 0 = .ok (.iconst 0, 1) ∧ decode b_Tabulator_totalLines 1 = .ok (.istore_n 2, 1) ∧ decode b_Tabulator_totalLines 2 = .ok (.iconst 0, 1) ∧ decode b_Tabulator_totalLines 3 = .ok (.istore_n 3, 1) ∧ decode b_Tabulator_totalLines 4 = .ok (.iload_n 3, 1) ∧ decode b_Tabulator_totalLines 5 = .ok (.iload_n 1, 1) ∧ decode b_Tabulator_totalLines 6 = .ok (.if_icmp .ge 20, 3) ∧ decode b_Tabulator_totalLines 9 = .ok (.aload_n 0, 1) ∧ decode b_Tabulator_totalLines 10 = .ok (.iload_n 3, 1) ∧ decode b_Tabulator_totalLines 11 = .ok (.invokevirtual 140, 3) ∧ decode b_Tabulator_totalLines 14 = .ok (.ifCond .eq 6, 3) ∧ decode b_Tabulator_totalLines 17 = .ok (.iinc 2 1, 3) ∧ decode b_Tabulator_totalLines 20 = .ok (.iinc 3 1, 3) ∧ decode b_Tabulator_totalLines 23 = .ok (.goto (-19), 3) ∧ decode b_Tabulator_totalLines 26 = .ok (.iload_n 2, 1) ∧ decode b_Tabulator_totalLines 27 = .ok (.ireturn, 1) := ⟨by decide +kernel, by decide +kernel, by decide +kernel, by decide +kernel, by decide +kernel, by decide +kernel, by decide +kernel, by decide +kernel, by decide +kernel, by decide +kernel, by decide +kernel, by decide +kernel, by decide +kernel, by decide +kernel, by decide +kernel, by decide +kernel⟩
theorem s_Tabulator_totalLines : Cond.static y_Tabulator_totalLines ∈ nm_Ts ∧ Cond.initialized y_Tabulator_totalLines.cls ∈ nm_Ts ∧ Cond.code y_Tabulator_totalLines b_Tabulator_totalLines 4 (some .int) ∈ nm_Ts ∧ mz_cl1 y_Tabulator_totalLines 2 := ⟨nm_t3 239 rfl rfl, nm_t1 8 rfl rfl, nm_t4 0 rfl rfl, by decide +kernel⟩
def y_Board_hasCounterOf : MethodName := ⟨"CardOffice$Board", "hasCounterOf", "(I)Z"⟩
abbrev b_Board_hasCounterOf : ByteArray := prog_2_method_13_code
def r_Board_hasCounterOf (c s : Nat) : Room := { frames := 0, cells := c, slots := s, locals := 0 }
theorem d_Board_hasCounterOf : decode b_Board_hasCounterOf 0 = .ok (.iconst 0, 1) ∧ decode b_Board_hasCounterOf 1 = .ok (.istore_n 2, 1) ∧ decode b_Board_hasCounterOf 2 = .ok (.iload_n 2, 1) ∧ decode b_Board_hasCounterOf 3 = .ok (.iconst 4, 1) ∧ decode b_Board_hasCounterOf 4 = .ok (.if_icmp .ge 21, 3) ∧ decode b_Board_hasCounterOf 7 = .ok (.aload_n 0, 1) ∧ decode b_Board_hasCounterOf 8 = .ok (.getfield 18, 3) ∧ decode b_Board_hasCounterOf 11 = .ok (.iload_n 2, 1) ∧ decode b_Board_hasCounterOf 12 = .ok (.iaload, 1) ∧ decode b_Board_hasCounterOf 13 = .ok (.iload_n 1, 1) ∧ decode b_Board_hasCounterOf 14 = .ok (.if_icmp .ne 5, 3) ∧ decode b_Board_hasCounterOf 17 = .ok (.iconst 1, 1) ∧ decode b_Board_hasCounterOf 18 = .ok (.ireturn, 1) ∧ decode b_Board_hasCounterOf 19 = .ok (.iinc 2 1, 3) ∧ decode b_Board_hasCounterOf 22 = .ok (.goto (-20), 3) ∧ decode b_Board_hasCounterOf 25 = .ok (.iconst 0, 1) ∧ decode b_Board_hasCounterOf 26 = .ok (.ireturn, 1) := ⟨by decide +kernel, by decide +kernel, by decide +kernel, by decide +kernel, by decide +kernel, by decide +kernel, by decide +kernel, by decide +kernel, by decide +kernel, by decide +kernel, by decide +kernel, by decide +kernel, by decide +kernel, by decide +kernel, by decide +kernel, by decide +kernel, by decide +kernel⟩
theorem v_Board_hasCounterOf : Cond.instanceMethod y_Board_hasCounterOf ∈ nm_Ts ∧ Cond.selects y_Board_hasCounterOf.cls y_Board_hasCounterOf y_Board_hasCounterOf ∈ nm_Ts ∧ Cond.initialized y_Board_hasCounterOf.cls ∈ nm_Ts ∧ Cond.code y_Board_hasCounterOf b_Board_hasCounterOf 3 (some .boolean) ∈ nm_Ts ∧ mz_cl1 y_Board_hasCounterOf 1 := ⟨nm_t4 2 rfl rfl, nm_t4 3 rfl rfl, nm_t1 10 rfl rfl, nm_t4 4 rfl rfl, by decide +kernel⟩
def y_Paper_hasRoomFor : MethodName := ⟨"CardOffice$Paper", "hasRoomFor", "(I)Z"⟩
abbrev b_Paper_hasRoomFor : ByteArray := prog_9_method_2_code
def r_Paper_hasRoomFor (c s : Nat) : Room := { frames := 0, cells := c, slots := s, locals := 0 }
theorem d_Paper_hasRoomFor : decode b_Paper_hasRoomFor 0 = .ok (.aload_n 0, 1) ∧ decode b_Paper_hasRoomFor 1 = .ok (.getfield 16, 3) ∧ decode b_Paper_hasRoomFor 4 = .ok (.iload_n 1, 1) ∧ decode b_Paper_hasRoomFor 5 = .ok (.iadd, 1) ∧ decode b_Paper_hasRoomFor 6 = .ok (.bipush 100, 2) ∧ decode b_Paper_hasRoomFor 8 = .ok (.if_icmp .gt 7, 3) ∧ decode b_Paper_hasRoomFor 11 = .ok (.iconst 1, 1) ∧ decode b_Paper_hasRoomFor 12 = .ok (.goto 4, 3) ∧ decode b_Paper_hasRoomFor 15 = .ok (.iconst 0, 1) ∧ decode b_Paper_hasRoomFor 16 = .ok (.ireturn, 1) := ⟨by decide +kernel, by decide +kernel, by decide +kernel, by decide +kernel, by decide +kernel, by decide +kernel, by decide +kernel, by decide +kernel, by decide +kernel, by decide +kernel⟩
theorem v_Paper_hasRoomFor : Cond.instanceMethod y_Paper_hasRoomFor ∈ nm_Ts ∧ Cond.selects y_Paper_hasRoomFor.cls y_Paper_hasRoomFor y_Paper_hasRoomFor ∈ nm_Ts ∧ Cond.initialized y_Paper_hasRoomFor.cls ∈ nm_Ts ∧ Cond.code y_Paper_hasRoomFor b_Paper_hasRoomFor 2 (some .boolean) ∈ nm_Ts ∧ mz_cl1 y_Paper_hasRoomFor 1 := ⟨nm_t4 6 rfl rfl, nm_t4 7 rfl rfl, nm_t1 9 rfl rfl, nm_t4 8 rfl rfl, by decide +kernel⟩
def y_Tabulator_doTotals : MethodName := ⟨"CardOffice$Tabulator", "doTotals", "(LCardOffice$Board;I)V"⟩
abbrev b_Tabulator_doTotals : ByteArray := prog_12_method_10_code
def r_Tabulator_doTotals (c s : Nat) : Room := { frames := 3, cells := c, slots := s, locals := 69 }
theorem d_Tabulator_doTotals : decode b_Tabulator_doTotals 0 = .ok (.iconst 0, 1) ∧ decode b_Tabulator_doTotals 1 = .ok (.istore_n 3, 1) ∧ decode b_Tabulator_doTotals 2 = .ok (.iload_n 3, 1) ∧ decode b_Tabulator_doTotals 3 = .ok (.iload_n 2, 1) ∧ decode b_Tabulator_doTotals 4 = .ok (.if_icmp .ge 47, 3) ∧ decode b_Tabulator_doTotals 7 = .ok (.aload_n 1, 1) ∧ decode b_Tabulator_doTotals 8 = .ok (.iload_n 3, 1) ∧ decode b_Tabulator_doTotals 9 = .ok (.invokevirtual 140, 3) ∧ decode b_Tabulator_doTotals 12 = .ok (.ifCond .eq 33, 3) ∧ decode b_Tabulator_doTotals 15 = .ok (.aload_n 1, 1) ∧ decode b_Tabulator_doTotals 16 = .ok (.aload_n 0, 1) ∧ decode b_Tabulator_doTotals 17 = .ok (.getfield 9, 3) ∧ decode b_Tabulator_doTotals 20 = .ok (.iload_n 3, 1) ∧ decode b_Tabulator_doTotals 21 = .ok (.aload_n 0, 1) ∧ decode b_Tabulator_doTotals 22 = .ok (.getfield 27, 3) ∧ decode b_Tabulator_doTotals 25 = .ok (.invokevirtual 116, 3) ∧ decode b_Tabulator_doTotals 28 = .ok (.aload_n 0, 1) ∧ decode b_Tabulator_doTotals 29 = .ok (.getfield 18, 3) ∧ decode b_Tabulator_doTotals 32 = .ok (.aload_n 0, 1) ∧ decode b_Tabulator_doTotals 33 = .ok (.getfield 27, 3) ∧ decode b_Tabulator_doTotals 36 = .ok (.invokevirtual 143, 3) ∧ decode b_Tabulator_doTotals 39 = .ok (.aload_n 0, 1) ∧ decode b_Tabulator_doTotals 40 = .ok (.aload_n 1, 1) ∧ decode b_Tabulator_doTotals 41 = .ok (.iload_n 3, 1) ∧ decode b_Tabulator_doTotals 42 = .ok (.invokevirtual 147, 3) ∧ decode b_Tabulator_doTotals 45 = .ok (.iinc 3 1, 3) ∧ decode b_Tabulator_doTotals 48 = .ok (.goto (-46), 3) ∧ decode b_Tabulator_doTotals 51 = .ok (.return_, 1) := ⟨by decide +kernel, by decide +kernel, by decide +kernel, by decide +kernel, by decide +kernel, by decide +kernel, by decide +kernel, by decide +kernel, by decide +kernel, by decide +kernel, by decide +kernel, by decide +kernel, by decide +kernel, by decide +kernel, by decide +kernel, by decide +kernel, by decide +kernel, by decide +kernel, by decide +kernel, by decide +kernel, by decide +kernel, by decide +kernel, by decide +kernel, by decide +kernel, by decide +kernel, by decide +kernel, by decide +kernel, by decide +kernel⟩
theorem v_Tabulator_doTotals : Cond.instanceMethod y_Tabulator_doTotals ∈ nm_Ts ∧ Cond.selects y_Tabulator_doTotals.cls y_Tabulator_doTotals y_Tabulator_doTotals ∈ nm_Ts ∧ Cond.initialized y_Tabulator_doTotals.cls ∈ nm_Ts ∧ Cond.code y_Tabulator_doTotals b_Tabulator_doTotals 4 none ∈ nm_Ts ∧ mz_cl1 y_Tabulator_doTotals 2 := ⟨nm_t4 12 rfl rfl, nm_s 14 rfl rfl, nm_t1 8 rfl rfl, nm_t4 13 rfl rfl, by decide +kernel⟩
def y_Paper_print : MethodName := ⟨"CardOffice$Paper", "print", "(LCardOffice$Jacks;)V"⟩
abbrev b_Paper_print : ByteArray := prog_9_method_3_code
def r_Paper_print (c s : Nat) : Room := { frames := 1, cells := c, slots := s, locals := 21 }
theorem d_Paper_print : decode b_Paper_print 0 = .ok (.iconst 0, 1) ∧ decode b_Paper_print 1 = .ok (.istore_n 2, 1) ∧ decode b_Paper_print 2 = .ok (.iload_n 2, 1) ∧ decode b_Paper_print 3 = .ok (.bipush 24, 2) ∧ decode b_Paper_print 5 = .ok (.if_icmp .ge 25, 3) ∧ decode b_Paper_print 8 = .ok (.aload_n 0, 1) ∧ decode b_Paper_print 9 = .ok (.getfield 11, 3) ∧ decode b_Paper_print 12 = .ok (.aload_n 0, 1) ∧ decode b_Paper_print 13 = .ok (.getfield 16, 3) ∧ decode b_Paper_print 16 = .ok (.aaload, 1) ∧ decode b_Paper_print 17 = .ok (.iload_n 2, 1) ∧ decode b_Paper_print 18 = .ok (.aload_n 1, 1) ∧ decode b_Paper_print 19 = .ok (.iload_n 2, 1) ∧ decode b_Paper_print 20 = .ok (.invokevirtual 20, 3) ∧ decode b_Paper_print 23 = .ok (.iastore, 1) ∧ decode b_Paper_print 24 = .ok (.iinc 2 1, 3) ∧ decode b_Paper_print 27 = .ok (.goto (-25), 3) ∧ decode b_Paper_print 30 = .ok (.aload_n 0, 1) ∧ decode b_Paper_print 31 = .ok (.dup, 1) ∧ decode b_Paper_print 32 = .ok (.getfield 16, 3) ∧ decode b_Paper_print 35 = .ok (.iconst 1, 1) ∧ decode b_Paper_print 36 = .ok (.iadd, 1) ∧ decode b_Paper_print 37 = .ok (.putfield 16, 3) ∧ decode b_Paper_print 40 = .ok (.return_, 1) := ⟨by decide +kernel, by decide +kernel, by decide +kernel, by decide +kernel, by decide +kernel, by decide +kernel, by decide +kernel, by decide +kernel, by decide +kernel, by decide +kernel, by decide +kernel, by decide +kernel, by decide +kernel, by decide +kernel, by decide +kernel, by decide +kernel, by decide +kernel, by decide +kernel, by decide +kernel, by decide +kernel, by decide +kernel, by decide +kernel, by decide +kernel, by decide +kernel⟩
theorem v_Paper_print : Cond.instanceMethod y_Paper_print ∈ nm_Ts ∧ Cond.selects y_Paper_print.cls y_Paper_print y_Paper_print ∈ nm_Ts ∧ Cond.initialized y_Paper_print.cls ∈ nm_Ts ∧ Cond.code y_Paper_print b_Paper_print 3 none ∈ nm_Ts ∧ mz_cl1 y_Paper_print 1 := ⟨nm_t4 15 rfl rfl, nm_t4 16 rfl rfl, nm_t1 9 rfl rfl, nm_t4 17 rfl rfl, by decide +kernel⟩
def y_Tabulator_clearCounters : MethodName := ⟨"CardOffice$Tabulator", "clearCounters", "(LCardOffice$Board;I)V"⟩
abbrev b_Tabulator_clearCounters : ByteArray := prog_12_method_11_code
def r_Tabulator_clearCounters (c s : Nat) : Room := { frames := 0, cells := c, slots := s, locals := 0 }
theorem d_Tabulator_clearCounters : decode b_Tabulator_clearCounters 0 = .ok (.iconst 0, 1) ∧ decode b_Tabulator_clearCounters 1 = .ok (.istore_n 3, 1) ∧ decode b_Tabulator_clearCounters 2 = .ok (.iload_n 3, 1) ∧ decode b_Tabulator_clearCounters 3 = .ok (.iconst 4, 1) ∧ decode b_Tabulator_clearCounters 4 = .ok (.if_icmp .ge 26, 3) ∧ decode b_Tabulator_clearCounters 7 = .ok (.aload_n 1, 1) ∧ decode b_Tabulator_clearCounters 8 = .ok (.getfield 120, 3) ∧ decode b_Tabulator_clearCounters 11 = .ok (.iload_n 3, 1) ∧ decode b_Tabulator_clearCounters 12 = .ok (.iaload, 1) ∧ decode b_Tabulator_clearCounters 13 = .ok (.iload_n 2, 1) ∧ decode b_Tabulator_clearCounters 14 = .ok (.if_icmp .ne 10, 3) ∧ decode b_Tabulator_clearCounters 17 = .ok (.aload_n 0, 1) ∧ decode b_Tabulator_clearCounters 18 = .ok (.getfield 9, 3) ∧ decode b_Tabulator_clearCounters 21 = .ok (.iload_n 3, 1) ∧ decode b_Tabulator_clearCounters 22 = .ok (.iconst 0, 1) ∧ decode b_Tabulator_clearCounters 23 = .ok (.iastore, 1) ∧ decode b_Tabulator_clearCounters 24 = .ok (.iinc 3 1, 3) ∧ decode b_Tabulator_clearCounters 27 = .ok (.goto (-25), 3) ∧ decode b_Tabulator_clearCounters 30 = .ok (.return_, 1) := ⟨by decide +kernel, by decide +kernel, by decide +kernel, by decide +kernel, by decide +kernel, by decide +kernel, by decide +kernel, by decide +kernel, by decide +kernel, by decide +kernel, by decide +kernel, by decide +kernel, by decide +kernel, by decide +kernel, by decide +kernel, by decide +kernel, by decide +kernel, by decide +kernel, by decide +kernel⟩
theorem v_Tabulator_clearCounters : Cond.instanceMethod y_Tabulator_clearCounters ∈ nm_Ts ∧ Cond.selects y_Tabulator_clearCounters.cls y_Tabulator_clearCounters y_Tabulator_clearCounters ∈ nm_Ts ∧ Cond.initialized y_Tabulator_clearCounters.cls ∈ nm_Ts ∧ Cond.code y_Tabulator_clearCounters b_Tabulator_clearCounters 4 none ∈ nm_Ts ∧ mz_cl1 y_Tabulator_clearCounters 2 := ⟨nm_t4 21 rfl rfl, nm_s 15 rfl rfl, nm_t1 8 rfl rfl, nm_t4 22 rfl rfl, by decide +kernel⟩
def y_Tabulator_doCard : MethodName := ⟨"CardOffice$Tabulator", "doCard", "(Z)V"⟩
abbrev b_Tabulator_doCard : ByteArray := prog_12_method_12_code
def r_Tabulator_doCard (c s : Nat) : Room := { frames := 2, cells := c, slots := s, locals := 45 }
theorem d_Tabulator_doCard : decode b_Tabulator_doCard 0 = .ok (.iload_n 1, 1) ∧ decode b_Tabulator_doCard 1 = .ok (.ifCond .eq 14, 3) ∧ decode b_Tabulator_doCard 4 = .ok (.aload_n 0, 1) ∧ decode b_Tabulator_doCard 5 = .ok (.getfield 18, 3) ∧ decode b_Tabulator_doCard 8 = .ok (.aload_n 0, 1) ∧ decode b_Tabulator_doCard 9 = .ok (.getfield 31, 3) ∧ decode b_Tabulator_doCard 12 = .ok (.invokevirtual 143, 3) ∧ decode b_Tabulator_doCard 15 = .ok (.iconst 0, 1) ∧ decode b_Tabulator_doCard 16 = .ok (.istore_n 2, 1) ∧ decode b_Tabulator_doCard 17 = .ok (.iload_n 2, 1) ∧ decode b_Tabulator_doCard 18 = .ok (.iconst 4, 1) ∧ decode b_Tabulator_doCard 19 = .ok (.if_icmp .ge 23, 3) ∧ decode b_Tabulator_doCard 22 = .ok (.aload_n 0, 1) ∧ decode b_Tabulator_doCard 23 = .ok (.getfield 9, 3) ∧ decode b_Tabulator_doCard 26 = .ok (.iload_n 2, 1) ∧ decode b_Tabulator_doCard 27 = .ok (.dup2, 1) ∧ decode b_Tabulator_doCard 28 = .ok (.iaload, 1) ∧ decode b_Tabulator_doCard 29 = .ok (.aload_n 0, 1) ∧ decode b_Tabulator_doCard 30 = .ok (.iload_n 2, 1) ∧ decode b_Tabulator_doCard 31 = .ok (.invokevirtual 123, 3) ∧ decode b_Tabulator_doCard 34 = .ok (.iadd, 1) ∧ decode b_Tabulator_doCard 35 = .ok (.iastore, 1) ∧ decode b_Tabulator_doCard 36 = .ok (.iinc 2 1, 3) ∧ decode b_Tabulator_doCard 39 = .ok (.goto (-22), 3) ∧ decode b_Tabulator_doCard 42 = .ok (.return_, 1) := ⟨by decide +kernel, by decide +kernel, by decide +kernel, by decide +kernel, by decide +kernel, by decide +kernel, by decide +kernel, by decide +kernel, by decide +kernel, by decide +kernel, by decide +kernel, by decide +kernel, by decide +kernel, by decide +kernel, by decide +kernel, by decide +kernel, by decide +kernel, by decide +kernel, by decide +kernel, by decide +kernel, by decide +kernel, by decide +kernel, by decide +kernel, by decide +kernel, by decide +kernel⟩
theorem v_Tabulator_doCard : Cond.instanceMethod y_Tabulator_doCard ∈ nm_Ts ∧ Cond.selects y_Tabulator_doCard.cls y_Tabulator_doCard y_Tabulator_doCard ∈ nm_Ts ∧ Cond.initialized y_Tabulator_doCard.cls ∈ nm_Ts ∧ Cond.code y_Tabulator_doCard b_Tabulator_doCard 3 none ∈ nm_Ts ∧ mz_cl1 y_Tabulator_doCard 1 := ⟨nm_t4 25 rfl rfl, nm_s 16 rfl rfl, nm_t1 8 rfl rfl, nm_t4 26 rfl rfl, by decide +kernel⟩
def y_Tabulator_finish : MethodName := ⟨"CardOffice$Tabulator", "finish", "(LCardOffice$Board;ILCardOffice$FaultLight;)I"⟩
abbrev b_Tabulator_finish : ByteArray := prog_12_method_3_code
def r_Tabulator_finish (c s : Nat) : Room := { frames := 5, cells := c, slots := s, locals := 113 }
theorem d_Tabulator_finish : decode b_Tabulator_finish 0 = .ok (.iload_n 2, 1) ∧ decode b_Tabulator_finish 1 = .ok (.ifCond .le 29, 3) ∧ decode b_Tabulator_finish 4 = .ok (.aload_n 0, 1) ∧ decode b_Tabulator_finish 5 = .ok (.aload_n 1, 1) ∧ decode b_Tabulator_finish 6 = .ok (.invokevirtual 85, 3) ∧ decode b_Tabulator_finish 9 = .ok (.istore 4, 2) ∧ decode b_Tabulator_finish 11 = .ok (.iload 4, 2) ∧ decode b_Tabulator_finish 13 = .ok (.ifCond .eq 11, 3) ∧ decode b_Tabulator_finish 16 = .ok (.aload_n 3, 1) ∧ decode b_Tabulator_finish 17 = .ok (.iload 4, 2) ∧ decode b_Tabulator_finish 19 = .ok (.iload_n 2, 1) ∧ decode b_Tabulator_finish 20 = .ok (.invokevirtual 67, 3) ∧ decode b_Tabulator_finish 23 = .ok (.ireturn, 1) ∧ decode b_Tabulator_finish 24 = .ok (.aload_n 0, 1) ∧ decode b_Tabulator_finish 25 = .ok (.aload_n 1, 1) ∧ decode b_Tabulator_finish 26 = .ok (.iconst 4, 1) ∧ decode b_Tabulator_finish 27 = .ok (.invokevirtual 73, 3) ∧ decode b_Tabulator_finish 30 = .ok (.aload_n 3, 1) ∧ decode b_Tabulator_finish 31 = .ok (.iload_n 2, 1) ∧ decode b_Tabulator_finish 32 = .ok (.invokevirtual 89, 3) ∧ decode b_Tabulator_finish 35 = .ok (.ireturn, 1) := ⟨by decide +kernel, by decide +kernel, by decide +kernel, by decide +kernel, by decide +kernel, by decide +kernel, by decide +kernel, by decide +kernel, by decide +kernel, by decide +kernel, by decide +kernel, by decide +kernel, by decide +kernel, by decide +kernel, by decide +kernel, by decide +kernel, by decide +kernel, by decide +kernel, by decide +kernel, by decide +kernel, by decide +kernel⟩
theorem v_Tabulator_finish : Cond.instanceMethod y_Tabulator_finish ∈ nm_Ts ∧ Cond.selects y_Tabulator_finish.cls y_Tabulator_finish y_Tabulator_finish ∈ nm_Ts ∧ Cond.initialized y_Tabulator_finish.cls ∈ nm_Ts ∧ Cond.code y_Tabulator_finish b_Tabulator_finish 5 (some .int) ∈ nm_Ts ∧ mz_cl1 y_Tabulator_finish 3 := ⟨nm_t4 29 rfl rfl, nm_s 17 rfl rfl, nm_t1 8 rfl rfl, nm_t4 30 rfl rfl, by decide +kernel⟩
def y_Tabulator_faultOfLastTotals : MethodName := ⟨"CardOffice$Tabulator", "faultOfLastTotals", "(LCardOffice$Board;)I"⟩
abbrev b_Tabulator_faultOfLastTotals : ByteArray := prog_12_method_5_code
def r_Tabulator_faultOfLastTotals (c s : Nat) : Room := { frames := 4, cells := c, slots := s, locals := 92 }
theorem d_Tabulator_faultOfLastTotals : decode b_Tabulator_faultOfLastTotals 0 = .ok (.aload_n 0, 1) ∧ decode b_Tabulator_faultOfLastTotals 1 = .ok (.aload_n 1, 1) ∧ decode b_Tabulator_faultOfLastTotals 2 = .ok (.iconst 4, 1) ∧ decode b_Tabulator_faultOfLastTotals 3 = .ok (.invokevirtual 97, 3) ∧ decode b_Tabulator_faultOfLastTotals 6 = .ok (.ifCond .eq 5, 3) ∧ decode b_Tabulator_faultOfLastTotals 9 = .ok (.iconst 2, 1) ∧ decode b_Tabulator_faultOfLastTotals 10 = .ok (.ireturn, 1) ∧ decode b_Tabulator_faultOfLastTotals 11 = .ok (.aload_n 0, 1) ∧ decode b_Tabulator_faultOfLastTotals 12 = .ok (.getfield 18, 3) ∧ decode b_Tabulator_faultOfLastTotals 15 = .ok (.aload_n 1, 1) ∧ decode b_Tabulator_faultOfLastTotals 16 = .ok (.iconst 4, 1) ∧ decode b_Tabulator_faultOfLastTotals 17 = .ok (.invokestatic 108, 3) ∧ decode b_Tabulator_faultOfLastTotals 20 = .ok (.invokevirtual 112, 3) ∧ decode b_Tabulator_faultOfLastTotals 23 = .ok (.ifCond .eq 7, 3) ∧ decode b_Tabulator_faultOfLastTotals 26 = .ok (.iconst 0, 1) ∧ decode b_Tabulator_faultOfLastTotals 27 = .ok (.goto 4, 3) ∧ decode b_Tabulator_faultOfLastTotals 30 = .ok (.iconst 4, 1) ∧ decode b_Tabulator_faultOfLastTotals 31 = .ok (.ireturn, 1) := ⟨by decide +kernel, by decide +kernel, by decide +kernel, by decide +kernel, by decide +kernel, by decide +kernel, by decide +kernel, by decide +kernel, by decide +kernel, by decide +kernel, by decide +kernel, by decide +kernel, by decide +kernel, by decide +kernel, by decide +kernel, by decide +kernel, by decide +kernel, by decide +kernel⟩
theorem v_Tabulator_faultOfLastTotals : Cond.instanceMethod y_Tabulator_faultOfLastTotals ∈ nm_Ts ∧ Cond.selects y_Tabulator_faultOfLastTotals.cls y_Tabulator_faultOfLastTotals y_Tabulator_faultOfLastTotals ∈ nm_Ts ∧ Cond.initialized y_Tabulator_faultOfLastTotals.cls ∈ nm_Ts ∧ Cond.code y_Tabulator_faultOfLastTotals b_Tabulator_faultOfLastTotals 2 (some .int) ∈ nm_Ts ∧ mz_cl1 y_Tabulator_faultOfLastTotals 1 := ⟨nm_t4 33 rfl rfl, nm_s 18 rfl rfl, nm_t1 8 rfl rfl, nm_t4 34 rfl rfl, by decide +kernel⟩
def y_Office_sign : MethodName := ⟨"CardOffice", "sign", "(III)I"⟩
abbrev b_Office_sign : ByteArray := prog_1_method_15_code
def r_Office_sign (c s : Nat) : Room := { frames := 7, cells := c, slots := s, locals := 81 }
theorem d_Office_sign : decode b_Office_sign 0 = .ok (.iload_n 1, 1) ∧ decode b_Office_sign 1 = .ok (.invokestatic 62, 3) ∧ decode b_Office_sign 4 = .ok (.ifCond .eq 27, 3) ∧ decode b_Office_sign 7 = .ok (.iload_n 2, 1) ∧ decode b_Office_sign 8 = .ok (.ifCond .lt 23, 3) ∧ decode b_Office_sign 11 = .ok (.iload_n 2, 1) ∧ decode b_Office_sign 12 = .ok (.aload_n 0, 1) ∧ decode b_Office_sign 13 = .ok (.getfield 11, 3) ∧ decode b_Office_sign 16 = .ok (.iload_n 1, 1) ∧ decode b_Office_sign 17 = .ok (.aaload, 1) ∧ decode b_Office_sign 18 = .ok (.getfield 183, 3) ∧ decode b_Office_sign 21 = .ok (.if_icmp .ge 10, 3) ∧ decode b_Office_sign 24 = .ok (.iload_n 3, 1) ∧ decode b_Office_sign 25 = .ok (.invokestatic 106, 3) ∧ decode b_Office_sign 28 = .ok (.ifCond .ne 13, 3) ∧ decode b_Office_sign 31 = .ok (.new 191, 3) ∧ decode b_Office_sign 34 = .ok (.dup, 1) ∧ decode b_Office_sign 35 = .ok (.ldc 193, 2) ∧ decode b_Office_sign 37 = .ok (.invokespecial 195, 3) ∧ decode b_Office_sign 40 = .ok (.athrow, 1) ∧ decode b_Office_sign 41 = .ok (.aload_n 0, 1) ∧ decode b_Office_sign 42 = .ok (.getfield 11, 3) ∧ decode b_Office_sign 45 = .ok (.iload_n 1, 1) ∧ decode b_Office_sign 46 = .ok (.aaload, 1) ∧ decode b_Office_sign 47 = .ok (.iload_n 2, 1) ∧ decode b_Office_sign 48 = .ok (.invokevirtual 196, 3) ∧ decode b_Office_sign 51 = .ok (.getfield 77, 3) ∧ decode b_Office_sign 54 = .ok (.iload_n 3, 1) ∧ decode b_Office_sign 55 = .ok (.iaload, 1) ∧ decode b_Office_sign 56 = .ok (.ireturn, 1) := ⟨by decide +kernel, by decide +kernel, by decide +kernel, by decide +kernel, by decide +kernel, by decide +kernel, by decide +kernel, by decide +kernel, by decide +kernel, by decide +kernel, by decide +kernel, by decide +kernel, by decide +kernel, by decide +kernel, by decide +kernel, by decide +kernel, by decide +kernel, by decide +kernel, by decide +kernel, by decide +kernel, by decide +kernel, by decide +kernel, by decide +kernel, by decide +kernel, by decide +kernel, by decide +kernel, by decide +kernel, by decide +kernel, by decide +kernel, by decide +kernel⟩
theorem v_Office_sign : Cond.instanceMethod y_Office_sign ∈ nm_Ts ∧ Cond.selects y_Office_sign.cls y_Office_sign y_Office_sign ∈ nm_Ts ∧ Cond.initialized y_Office_sign.cls ∈ nm_Ts ∧ Cond.code y_Office_sign b_Office_sign 4 (some .int) ∈ nm_Ts ∧ mz_cl1 y_Office_sign 3 := ⟨nm_t4 41 rfl rfl, nm_t4 42 rfl rfl, nm_t1 1 rfl rfl, nm_t4 43 rfl rfl, by decide +kernel⟩
def y_Office_printed : MethodName := ⟨"CardOffice", "printed", "(II)I"⟩
abbrev b_Office_printed : ByteArray := prog_1_method_16_code
def r_Office_printed (c s : Nat) : Room := { frames := 7, cells := c, slots := s, locals := 81 }
theorem d_Office_printed : decode b_Office_printed 0 = .ok (.iload_n 1, 1) ∧ decode b_Office_printed 1 = .ok (.ifCond .lt 27, 3) ∧ decode b_Office_printed 4 = .ok (.iload_n 1, 1) ∧ decode b_Office_printed 5 = .ok (.aload_n 0, 1) ∧ decode b_Office_printed 6 = .ok (.getfield 56, 3) ∧ decode b_Office_printed 9 = .ok (.getfield 200, 3) ∧ decode b_Office_printed 12 = .ok (.getfield 204, 3) ∧ decode b_Office_printed 15 = .ok (.if_icmp .ge 13, 3) ∧ decode b_Office_printed 18 = .ok (.iload_n 2, 1) ∧ decode b_Office_printed 19 = .ok (.ifCond .lt 9, 3) ∧ decode b_Office_printed 22 = .ok (.iload_n 2, 1) ∧ decode b_Office_printed 23 = .ok (.bipush 24, 2) ∧ decode b_Office_printed 25 = .ok (.if_icmp .lt 13, 3) ∧ decode b_Office_printed 28 = .ok (.new 191, 3) ∧ decode b_Office_printed 31 = .ok (.dup, 1) ∧ decode b_Office_printed 32 = .ok (.ldc 209, 2) ∧ decode b_Office_printed 34 = .ok (.invokespecial 195, 3) ∧ decode b_Office_printed 37 = .ok (.athrow, 1) ∧ decode b_Office_printed 38 = .ok (.aload_n 0, 1) ∧ decode b_Office_printed 39 = .ok (.getfield 56, 3) ∧ decode b_Office_printed 42 = .ok (.getfield 200, 3) ∧ decode b_Office_printed 45 = .ok (.getfield 211, 3) ∧ decode b_Office_printed 48 = .ok (.iload_n 1, 1) ∧ decode b_Office_printed 49 = .ok (.aaload, 1) ∧ decode b_Office_printed 50 = .ok (.iload_n 2, 1) ∧ decode b_Office_printed 51 = .ok (.iaload, 1) ∧ decode b_Office_printed 52 = .ok (.ireturn, 1) := ⟨by decide +kernel, by decide +kernel, by decide +kernel, by decide +kernel, by decide +kernel, by decide +kernel, by decide +kernel, by decide +kernel, by decide +kernel, by decide +kernel, by decide +kernel, by decide +kernel, by decide +kernel, by decide +kernel, by decide +kernel, by decide +kernel, by decide +kernel, by decide +kernel, by decide +kernel, by decide +kernel, by decide +kernel, by decide +kernel, by decide +kernel, by decide +kernel, by decide +kernel, by decide +kernel, by decide +kernel⟩
theorem v_Office_printed : Cond.instanceMethod y_Office_printed ∈ nm_Ts ∧ Cond.selects y_Office_printed.cls y_Office_printed y_Office_printed ∈ nm_Ts ∧ Cond.initialized y_Office_printed.cls ∈ nm_Ts ∧ Cond.code y_Office_printed b_Office_printed 3 (some .int) ∈ nm_Ts ∧ mz_cl1 y_Office_printed 2 := ⟨nm_t4 65 rfl rfl, nm_t4 66 rfl rfl, nm_t1 1 rfl rfl, nm_t4 67 rfl rfl, by decide +kernel⟩
def y_Office_counter : MethodName := ⟨"CardOffice", "counter", "(I)I"⟩
abbrev b_Office_counter : ByteArray := prog_1_method_17_code
def r_Office_counter (c s : Nat) : Room := { frames := 7, cells := c, slots := s, locals := 81 }
theorem d_Office_counter : decode b_Office_counter 0 = .ok (.iload_n 1, 1) ∧ decode b_Office_counter 1 = .ok (.invokestatic 100, 3) ∧ decode b_Office_counter 4 = .ok (.ifCond .ne 13, 3) ∧ decode b_Office_counter 7 = .ok (.new 191, 3) ∧ decode b_Office_counter 10 = .ok (.dup, 1) ∧ decode b_Office_counter 11 = .ok (.ldc 214, 2) ∧ decode b_Office_counter 13 = .ok (.invokespecial 195, 3) ∧ decode b_Office_counter 16 = .ok (.athrow, 1) ∧ decode b_Office_counter 17 = .ok (.aload_n 0, 1) ∧ decode b_Office_counter 18 = .ok (.getfield 56, 3) ∧ decode b_Office_counter 21 = .ok (.getfield 216, 3) ∧ decode b_Office_counter 24 = .ok (.iload_n 1, 1) ∧ decode b_Office_counter 25 = .ok (.iaload, 1) ∧ decode b_Office_counter 26 = .ok (.ireturn, 1) := ⟨by decide +kernel, by decide +kernel, by decide +kernel, by decide +kernel, by decide +kernel, by decide +kernel, by decide +kernel, by decide +kernel, by decide +kernel, by decide +kernel, by decide +kernel, by decide +kernel, by decide +kernel, by decide +kernel⟩
theorem v_Office_counter : Cond.instanceMethod y_Office_counter ∈ nm_Ts ∧ Cond.selects y_Office_counter.cls y_Office_counter y_Office_counter ∈ nm_Ts ∧ Cond.initialized y_Office_counter.cls ∈ nm_Ts ∧ Cond.code y_Office_counter b_Office_counter 2 (some .int) ∈ nm_Ts ∧ mz_cl1 y_Office_counter 1 := ⟨nm_t4 73 rfl rfl, nm_t4 74 rfl rfl, nm_t1 1 rfl rfl, nm_t4 75 rfl rfl, by decide +kernel⟩
end
section
def y_Model_init : MethodName := ⟨"CardOfficeModel", "<init>", "()V"⟩
abbrev b_Model_init : ByteArray := prog_14_method_1_code
def r_Model_init (c s : Nat) : Room := { frames := 1, cells := c, slots := s, locals := 14 }
theorem d_Model_init : decode b_Model_init 0 = .ok (.aload_n 0, 1) ∧ decode b_Model_init 1 = .ok (.invokespecial 1, 3) ∧ decode b_Model_init 4 = .ok (.aload_n 0, 1) ∧ decode b_Model_init 5 = .ok (.sipush 3200, 3) ∧ decode b_Model_init 8 = .ok (.newarray .byte, 2) ∧ decode b_Model_init 10 = .ok (.putfield 7, 3) ∧ decode b_Model_init 13 = .ok (.aload_n 0, 1) ∧ decode b_Model_init 14 = .ok (.sipush 1600, 3) ∧ decode b_Model_init 17 = .ok (.newarray .short, 2) ∧ decode b_Model_init 19 = .ok (.putfield 13, 3) ∧ decode b_Model_init 22 = .ok (.aload_n 0, 1) ∧ decode b_Model_init 23 = .ok (.bipush 8, 2) ∧ decode b_Model_init 25 = .ok (.newarray .int, 2) ∧ decode b_Model_init 27 = .ok (.putfield 17, 3) ∧ decode b_Model_init 30 = .ok (.aload_n 0, 1) ∧ decode b_Model_init 31 = .ok (.sipush 200, 3) ∧ decode b_Model_init 34 = .ok (.newarray .short, 2) ∧ decode b_Model_init 36 = .ok (.putfield 21, 3) ∧ decode b_Model_init 39 = .ok (.aload_n 0, 1) ∧ decode b_Model_init 40 = .ok (.sipush 200, 3) ∧ decode b_Model_init 43 = .ok (.newarray .short, 2) ∧ decode b_Model_init 45 = .ok (.putfield 24, 3) ∧ decode b_Model_init 48 = .ok (.aload_n 0, 1) ∧ decode b_Model_init 49 = .ok (.sipush 160, 3) ∧ decode b_Model_init 52 = .ok (.newarray .byte, 2) ∧ decode b_Model_init 54 = .ok (.putfield 27, 3) ∧ decode b_Model_init 57 = .ok (.aload_n 0, 1) ∧ decode b_Model_init 58 = .ok (.sipush 160, 3) ∧ decode b_Model_init 61 = .ok (.newarray .byte, 2) ∧ decode b_Model_init 63 = .ok (.putfield 30, 3) ∧ decode b_Model_init 66 = .ok (.aload_n 0, 1) ∧ decode b_Model_init 67 = .ok (.iconst 4, 1) ∧ decode b_Model_init 68 = .ok (.newarray .int, 2) ∧ decode b_Model_init 70 = .ok (.putfield 33, 3) ∧ decode b_Model_init 73 = .ok (.aload_n 0, 1) ∧ decode b_Model_init 74 = .ok (.bipush 16, 2) ∧ decode b_Model_init 76 = .ok (.newarray .int, 2) ∧ decode b_Model_init 78 = .ok (.putfield 36, 3) ∧ decode b_Model_init 81 = .ok (.aload_n 0, 1) ∧ decode b_Model_init 82 = .ok (.iconst 4, 1) ∧ decode b_Model_init 83 = .ok (.newarray .int, 2) ∧ decode b_Model_init 85 = .ok (.putfield 39, 3) ∧ decode b_Model_init 88 = .ok (.aload_n 0, 1) ∧ decode b_Model_init 89 = .ok (.iconst 4, 1) ∧ decode b_Model_init 90 = .ok (.newarray .int, 2) ∧ decode b_Model_init 92 = .ok (.putfield 42, 3) ∧ decode b_Model_init 95 = .ok (.aload_n 0, 1) ∧ decode b_Model_init 96 = .ok (.sipush 2400, 3) ∧ decode b_Model_init 99 = .ok (.newarray .byte, 2) ∧ decode b_Model_init 101 = .ok (.putfield 45, 3) ∧ decode b_Model_init 104 = .ok (.aload_n 0, 1) ∧ decode b_Model_init 105 = .ok (.iconst (-1), 1) ∧ decode b_Model_init 106 = .ok (.putfield 48, 3) ∧ decode b_Model_init 109 = .ok (.iconst 0, 1) ∧ decode b_Model_init 110 = .ok (.istore_n 1, 1) ∧ decode b_Model_init 111 = .ok (.iload_n 1, 1) ∧ decode b_Model_init 112 = .ok (.bipush 16, 2) ∧ decode b_Model_init 114 = .ok (.if_icmp .ge 16, 3) ∧ decode b_Model_init 117 = .ok (.aload_n 0, 1) ∧ decode b_Model_init 118 = .ok (.getfield 36, 3) ∧ decode b_Model_init 121 = .ok (.iload_n 1, 1) ∧ decode b_Model_init 122 = .ok (.iconst 3, 1) ∧ decode b_Model_init 123 = .ok (.iastore, 1) ∧ decode b_Model_init 124 = .ok (.iinc 1 1, 3) ∧ decode b_Model_init 127 = .ok (.goto (-16), 3) ∧ decode b_Model_init 130 = .ok (.return_, 1) := ⟨by decide +kernel, by decide +kernel, by decide +kernel, by decide +kernel, by decide +kernel, by decide +kernel, by decide +kernel, by decide +kernel, by decide +kernel, by decide +kernel, by decide +kernel, by decide +kernel, by decide +kernel, by decide +kernel, by decide +kernel, by decide +kernel, by decide +kernel, by decide +kernel, by decide +kernel, by decide +kernel, by decide +kernel, by decide +kernel, by decide +kernel, by decide +kernel, by decide +kernel, by decide +kernel, by decide +kernel, by decide +kernel, by decide +kernel, by decide +kernel, by decide +kernel, by decide +kernel, by decide +kernel, by decide +kernel, by decide +kernel, by decide +kernel, by decide +kernel, by decide +kernel, by decide +kernel, by decide +kernel, by decide +kernel, by decide +kernel, by decide +kernel, by decide +kernel, by decide +kernel, by decide +kernel, by decide +kernel, by decide +kernel, by decide +kernel, by decide +kernel, by decide +kernel, by decide +kernel, by decide +kernel, by decide +kernel, by decide +kernel, by decide +kernel, by decide +kernel, by decide +kernel, by decide +kernel, by decide +kernel, by decide +kernel, by decide +kernel, by decide +kernel, by decide +kernel, by decide +kernel, by decide +kernel⟩
theorem i_Model_init : Cond.instanceMethod y_Model_init ∈ nm_Ts ∧ y_Model_init.name = "<init>" ∧ Cond.initialized y_Model_init.cls ∈ nm_Ts ∧ Cond.code y_Model_init b_Model_init 2 none ∈ nm_Ts ∧ mz_cl1 y_Model_init 0 := ⟨nm_t4 80 rfl rfl, rfl, nm_t1 12 rfl rfl, nm_t4 81 rfl rfl, by decide +kernel⟩
def y_Model_card : MethodName := ⟨"CardOfficeModel", "card", "(IJJ)Z"⟩
abbrev b_Model_card : ByteArray := prog_14_method_15_code
def r_Model_card (c s : Nat) : Room := { frames := 1, cells := c, slots := s, locals := 22 }
theorem d_Model_card : decode b_Model_card 0 = .ok (.aload_n 0, 1) ∧ decode b_Model_card 1 = .ok (.iconst 0, 1) ∧ decode b_Model_card 2 = .ok (.putfield 52, 3) ∧ decode b_Model_card 5 = .ok (.iload_n 1, 1) ∧ decode b_Model_card 6 = .ok (.invokestatic 65, 3) ∧ decode b_Model_card 9 = .ok (.ifCond .eq 17, 3) ∧ decode b_Model_card 12 = .ok (.aload_n 0, 1) ∧ decode b_Model_card 13 = .ok (.getfield 62, 3) ∧ decode b_Model_card 16 = .ok (.sipush 200, 3) ∧ decode b_Model_card 19 = .ok (.if_icmp .ge 7, 3) ∧ decode b_Model_card 22 = .ok (.iconst 1, 1) ∧ decode b_Model_card 23 = .ok (.goto 4, 3) ∧ decode b_Model_card 26 = .ok (.iconst 0, 1) ∧ decode b_Model_card 27 = .ok (.istore 6, 2) ∧ decode b_Model_card 29 = .ok (.iconst 0, 1) ∧ decode b_Model_card 30 = .ok (.istore 7, 2) ∧ decode b_Model_card 32 = .ok (.iload 7, 2) ∧ decode b_Model_card 34 = .ok (.bipush 16, 2) ∧ decode b_Model_card 36 = .ok (.if_icmp .ge 57, 3) ∧ decode b_Model_card 39 = .ok (.iload 6, 2) ∧ decode b_Model_card 41 = .ok (.ifCond .eq 43, 3) ∧ decode b_Model_card 44 = .ok (.iload 7, 2) ∧ decode b_Model_card 46 = .ok (.bipush 8, 2) ∧ decode b_Model_card 48 = .ok (.if_icmp .ge 7, 3) ∧ decode b_Model_card 51 = .ok (.lload_n 2, 1) ∧ decode b_Model_card 52 = .ok (.goto 5, 3) ∧ decode b_Model_card 55 = .ok (.lload 4, 2) ∧ decode b_Model_card 57 = .ok (.bipush 56, 2) ∧ decode b_Model_card 59 = .ok (.bipush 8, 2) ∧ decode b_Model_card 61 = .ok (.iload 7, 2) ∧ decode b_Model_card 63 = .ok (.bipush 8, 2) ∧ decode b_Model_card 65 = .ok (.irem, 1) ∧ decode b_Model_card 66 = .ok (.imul, 1) ∧ decode b_Model_card 67 = .ok (.isub, 1) ∧ decode b_Model_card 68 = .ok (.lshr, 1) ∧ decode b_Model_card 69 = .ok (.ldc2_w 69, 3) ∧ decode b_Model_card 72 = .ok (.land, 1) ∧ decode b_Model_card 73 = .ok (.l2i, 1) ∧ decode b_Model_card 74 = .ok (.invokestatic 71, 3) ∧ decode b_Model_card 77 = .ok (.ifCond .eq 7, 3) ∧ decode b_Model_card 80 = .ok (.iconst 1, 1) ∧ decode b_Model_card 81 = .ok (.goto 4, 3) ∧ decode b_Model_card 84 = .ok (.iconst 0, 1) ∧ decode b_Model_card 85 = .ok (.istore 6, 2) ∧ decode b_Model_card 87 = .ok (.iinc 7 1, 3) ∧ decode b_Model_card 90 = .ok (.goto (-58), 3) ∧ decode b_Model_card 93 = .ok (.iload 6, 2) ∧ decode b_Model_card 95 = .ok (.ifCond .ne 5, 3) ∧ decode b_Model_card 98 = .ok (.iconst 0, 1) ∧ decode b_Model_card 99 = .ok (.ireturn, 1) ∧ decode b_Model_card 100 = .ok (.aload_n 0, 1) ∧ decode b_Model_card 101 = .ok (.invokevirtual 74, 3) ∧ decode b_Model_card 104 = .ok (.istore 7, 2) ∧ decode b_Model_card 106 = .ok (.iconst 0, 1) ∧ decode b_Model_card 107 = .ok (.istore 8, 2) ∧ decode b_Model_card 109 = .ok (.iload 8, 2) ∧ decode b_Model_card 111 = .ok (.bipush 16, 2) ∧ decode b_Model_card 113 = .ok (.if_icmp .ge 53, 3) ∧ decode b_Model_card 116 = .ok (.aload_n 0, 1) ∧ decode b_Model_card 117 = .ok (.getfield 7, 3) ∧ decode b_Model_card 120 = .ok (.bipush 16, 2) ∧ decode b_Model_card 122 = .ok (.iload 7, 2) ∧ decode b_Model_card 124 = .ok (.imul, 1) ∧ decode b_Model_card 125 = .ok (.iload 8, 2) ∧ decode b_Model_card 127 = .ok (.iadd, 1) ∧ decode b_Model_card 128 = .ok (.iload 8, 2) ∧ decode b_Model_card 130 = .ok (.bipush 8, 2) ∧ decode b_Model_card 132 = .ok (.if_icmp .ge 7, 3) ∧ decode b_Model_card 135 = .ok (.lload_n 2, 1) ∧ decode b_Model_card 136 = .ok (.goto 5, 3) ∧ decode b_Model_card 139 = .ok (.lload 4, 2) ∧ decode b_Model_card 141 = .ok (.bipush 56, 2) ∧ decode b_Model_card 143 = .ok (.bipush 8, 2) ∧ decode b_Model_card 145 = .ok (.iload 8, 2) ∧ decode b_Model_card 147 = .ok (.bipush 8, 2) ∧ decode b_Model_card 149 = .ok (.irem, 1) ∧ decode b_Model_card 150 = .ok (.imul, 1) ∧ decode b_Model_card 151 = .ok (.isub, 1) ∧ decode b_Model_card 152 = .ok (.lshr, 1) ∧ decode b_Model_card 153 = .ok (.ldc2_w 69, 3) ∧ decode b_Model_card 156 = .ok (.land, 1) ∧ decode b_Model_card 157 = .ok (.l2i, 1) ∧ decode b_Model_card 158 = .ok (.i2b, 1) ∧ decode b_Model_card 159 = .ok (.bastore, 1) ∧ decode b_Model_card 160 = .ok (.iinc 8 1, 3) ∧ decode b_Model_card 163 = .ok (.goto (-54), 3) ∧ decode b_Model_card 166 = .ok (.aload_n 0, 1) ∧ decode b_Model_card 167 = .ok (.iload_n 1, 1) ∧ decode b_Model_card 168 = .ok (.iload 7, 2) ∧ decode b_Model_card 170 = .ok (.invokevirtual 78, 3) ∧ decode b_Model_card 173 = .ok (.iconst 1, 1) ∧ decode b_Model_card 174 = .ok (.ireturn, 1) := ⟨by decide +kernel, by decide +kernel, by decide +kernel, by decide +kernel, by decide +kernel, by decide +kernel, by decide +kernel, by decide +kernel, by decide +kernel, by decide +kernel, by decide +kernel, by decide +kernel, by decide +kernel, by decide +kernel, by decide +kernel, by decide +kernel, by decide +kernel, by decide +kernel, by decide +kernel, by decide +kernel, by decide +kernel, by decide +kernel, by decide +kernel, by decide +kernel, by decide +kernel, by decide +kernel, by decide +kernel, by decide +kernel, by decide +kernel, by decide +kernel, by decide +kernel, by decide +kernel, by decide +kernel, by decide +kernel, by decide +kernel, by decide +kernel, by decide +kernel, by decide +kernel, by decide +kernel, by decide +kernel, by decide +kernel, by decide +kernel, by decide +kernel, by decide +kernel, by decide +kernel, by decide +kernel, by decide +kernel, by decide +kernel, by decide +kernel, by decide +kernel, by decide +kernel, by decide +kernel, by decide +kernel, by decide +kernel, by decide +kernel, by decide +kernel, by decide +kernel, by decide +kernel, by decide +kernel, by decide +kernel, by decide +kernel, by decide +kernel, by decide +kernel, by decide +kernel, by decide +kernel, by decide +kernel, by decide +kernel, by decide +kernel, by decide +kernel, by decide +kernel, by decide +kernel, by decide +kernel, by decide +kernel, by decide +kernel, by decide +kernel, by decide +kernel, by decide +kernel, by decide +kernel, by decide +kernel, by decide +kernel, by decide +kernel, by decide +kernel, by decide +kernel, by decide +kernel, by decide +kernel, by decide +kernel, by decide +kernel, by decide +kernel, by decide +kernel, by decide +kernel, by decide +kernel, by decide +kernel⟩
theorem v_Model_card : Cond.instanceMethod y_Model_card ∈ nm_Ts ∧ Cond.selects y_Model_card.cls y_Model_card y_Model_card ∈ nm_Ts ∧ Cond.initialized y_Model_card.cls ∈ nm_Ts ∧ Cond.code y_Model_card b_Model_card 9 (some .boolean) ∈ nm_Ts ∧ mz_cl1 y_Model_card 3 := ⟨nm_t4 143 rfl rfl, nm_t4 144 rfl rfl, nm_t1 12 rfl rfl, nm_t4 145 rfl rfl, by decide +kernel⟩
def y_Model_isDeck : MethodName := ⟨"CardOfficeModel", "isDeck", "(I)Z"⟩
abbrev b_Model_isDeck : ByteArray := prog_14_method_9_code
def r_Model_isDeck (c s : Nat) : Room := { frames := 0, cells := c, slots := s, locals := 0 }
theorem d_Model_isDeck : decode b_Model_isDeck 0 = .ok (.iload_n 0, 1) ∧ decode b_Model_isDeck 1 = .ok (.ifCond .lt 13, 3) ∧ decode b_Model_isDeck 4 = .ok (.iload_n 0, 1) ∧ decode b_Model_isDeck 5 = .ok (.bipush 8, 2) ∧ decode b_Model_isDeck 7 = .ok (.if_icmp .ge 7, 3) ∧ decode b_Model_isDeck 10 = .ok (.iconst 1, 1) ∧ decode b_Model_isDeck 11 = .ok (.goto 4, 3) ∧ decode b_Model_isDeck 14 = .ok (.iconst 0, 1) ∧ decode b_Model_isDeck 15 = .ok (.ireturn, 1) := ⟨by decide +kernel, by decide +kernel, by decide +kernel, by decide +kernel, by decide +kernel, by decide +kernel, by decide +kernel, by decide +kernel, by decide +kernel⟩
theorem s_Model_isDeck : Cond.static y_Model_isDeck ∈ nm_Ts ∧ Cond.initialized y_Model_isDeck.cls ∈ nm_Ts ∧ Cond.code y_Model_isDeck b_Model_isDeck 1 (some .boolean) ∈ nm_Ts ∧ mz_cl1 y_Model_isDeck 1 := ⟨nm_t4 147 rfl rfl, nm_t1 12 rfl rfl, nm_t4 148 rfl rfl, by decide +kernel⟩
def y_Model_isSign : MethodName := ⟨"CardOfficeModel", "isSign", "(I)Z"⟩
abbrev b_Model_isSign : ByteArray := prog_14_method_3_code
def r_Model_isSign (c s : Nat) : Room := { frames := 0, cells := c, slots := s, locals := 0 }
theorem d_Model_isSign : decode b_Model_isSign 0 = .ok (.iload_n 0, 1) ∧ decode b_Model_isSign 1 = .ok (.bipush 32, 2) ∧ decode b_Model_isSign 3 = .ok (.if_icmp .eq 27, 3) ∧ decode b_Model_isSign 6 = .ok (.iload_n 0, 1) ∧ decode b_Model_isSign 7 = .ok (.bipush 48, 2) ∧ decode b_Model_isSign 9 = .ok (.if_icmp .lt 9, 3) ∧ decode b_Model_isSign 12 = .ok (.iload_n 0, 1) ∧ decode b_Model_isSign 13 = .ok (.bipush 57, 2) ∧ decode b_Model_isSign 15 = .ok (.if_icmp .le 15, 3) ∧ decode b_Model_isSign 18 = .ok (.iload_n 0, 1) ∧ decode b_Model_isSign 19 = .ok (.bipush 65, 2) ∧ decode b_Model_isSign 21 = .ok (.if_icmp .lt 13, 3) ∧ decode b_Model_isSign 24 = .ok (.iload_n 0, 1) ∧ decode b_Model_isSign 25 = .ok (.bipush 90, 2) ∧ decode b_Model_isSign 27 = .ok (.if_icmp .gt 7, 3) ∧ decode b_Model_isSign 30 = .ok (.iconst 1, 1) ∧ decode b_Model_isSign 31 = .ok (.goto 4, 3) ∧ decode b_Model_isSign 34 = .ok (.iconst 0, 1) ∧ decode b_Model_isSign 35 = .ok (.ireturn, 1) := ⟨by decide +kernel, by decide +kernel, by decide +kernel, by decide +kernel, by decide +kernel, by decide +kernel, by decide +kernel, by decide +kernel, by decide +kernel, by decide +kernel, by decide +kernel, by decide +kernel, by decide +kernel, by decide +kernel, by decide +kernel, by decide +kernel, by decide +kernel, by decide +kernel, by decide +kernel⟩
theorem s_Model_isSign : Cond.static y_Model_isSign ∈ nm_Ts ∧ Cond.initialized y_Model_isSign.cls ∈ nm_Ts ∧ Cond.code y_Model_isSign b_Model_isSign 1 (some .boolean) ∈ nm_Ts ∧ mz_cl1 y_Model_isSign 1 := ⟨nm_t4 151 rfl rfl, nm_t1 12 rfl rfl, nm_t4 152 rfl rfl, by decide +kernel⟩
def y_Model_newCard : MethodName := ⟨"CardOfficeModel", "newCard", "()I"⟩
abbrev b_Model_newCard : ByteArray := prog_14_method_14_code
def r_Model_newCard (c s : Nat) : Room := { frames := 0, cells := c, slots := s, locals := 0 }
theorem d_Model_newCard : decode b_Model_newCard 0 = .ok (.iconst 0, 1) ∧ decode b_Model_newCard 1 = .ok (.istore_n 1, 1) ∧ decode b_Model_newCard 2 = .ok (.iload_n 1, 1) ∧ decode b_Model_newCard 3 = .ok (.bipush 16, 2) ∧ decode b_Model_newCard 5 = .ok (.if_icmp .ge 25, 3) ∧ decode b_Model_newCard 8 = .ok (.aload_n 0, 1) ∧ decode b_Model_newCard 9 = .ok (.getfield 7, 3) ∧ decode b_Model_newCard 12 = .ok (.bipush 16, 2) ∧ decode b_Model_newCard 14 = .ok (.aload_n 0, 1) ∧ decode b_Model_newCard 15 = .ok (.getfield 62, 3) ∧ decode b_Model_newCard 18 = .ok (.imul, 1) ∧ decode b_Model_newCard 19 = .ok (.iload_n 1, 1) ∧ decode b_Model_newCard 20 = .ok (.iadd, 1) ∧ decode b_Model_newCard 21 = .ok (.bipush 32, 2) ∧ decode b_Model_newCard 23 = .ok (.bastore, 1) ∧ decode b_Model_newCard 24 = .ok (.iinc 1 1, 3) ∧ decode b_Model_newCard 27 = .ok (.goto (-25), 3) ∧ decode b_Model_newCard 30 = .ok (.aload_n 0, 1) ∧ decode b_Model_newCard 31 = .ok (.dup, 1) ∧ decode b_Model_newCard 32 = .ok (.getfield 62, 3) ∧ decode b_Model_newCard 35 = .ok (.iconst 1, 1) ∧ decode b_Model_newCard 36 = .ok (.iadd, 1) ∧ decode b_Model_newCard 37 = .ok (.putfield 62, 3) ∧ decode b_Model_newCard 40 = .ok (.aload_n 0, 1) ∧ decode b_Model_newCard 41 = .ok (.getfield 62, 3) ∧ decode b_Model_newCard 44 = .ok (.iconst 1, 1) ∧ decode b_Model_newCard 45 = .ok (.isub, 1) ∧ decode b_Model_newCard 46 = .ok (.ireturn, 1) := ⟨by decide +kernel, by decide +kernel, by decide +kernel, by decide +kernel, by decide +kernel, by decide +kernel, by decide +kernel, by decide +kernel, by decide +kernel, by decide +kernel, by decide +kernel, by decide +kernel, by decide +kernel, by decide +kernel, by decide +kernel, by decide +kernel, by decide +kernel, by decide +kernel, by decide +kernel, by decide +kernel, by decide +kernel, by decide +kernel, by decide +kernel, by decide +kernel, by decide +kernel, by decide +kernel, by decide +kernel, by decide +kernel⟩
theorem v_Model_newCard : Cond.instanceMethod y_Model_newCard ∈ nm_Ts ∧ Cond.selects y_Model_newCard.cls y_Model_newCard y_Model_newCard ∈ nm_Ts ∧ Cond.initialized y_Model_newCard.cls ∈ nm_Ts ∧ Cond.code y_Model_newCard b_Model_newCard 2 (some .int) ∈ nm_Ts ∧ mz_cl1 y_Model_newCard 0 := ⟨nm_t4 155 rfl rfl, nm_s 19 rfl rfl, nm_t1 12 rfl rfl, nm_t4 156 rfl rfl, by decide +kernel⟩
def y_Model_add : MethodName := ⟨"CardOfficeModel", "add", "(II)V"⟩
abbrev b_Model_add : ByteArray := prog_14_method_13_code
def r_Model_add (c s : Nat) : Room := { frames := 0, cells := c, slots := s, locals := 0 }
theorem d_Model_add : decode b_Model_add 0 = .ok (.aload_n 0, 1) ∧ decode b_Model_add 1 = .ok (.getfield 13, 3) ∧ decode b_Model_add 4 = .ok (.sipush 200, 3) ∧ decode b_Model_add 7 = .ok (.iload_n 1, 1) ∧ decode b_Model_add 8 = .ok (.imul, 1) ∧ decode b_Model_add 9 = .ok (.aload_n 0, 1) ∧ decode b_Model_add 10 = .ok (.getfield 17, 3) ∧ decode b_Model_add 13 = .ok (.iload_n 1, 1) ∧ decode b_Model_add 14 = .ok (.iaload, 1) ∧ decode b_Model_add 15 = .ok (.iadd, 1) ∧ decode b_Model_add 16 = .ok (.iload_n 2, 1) ∧ decode b_Model_add 17 = .ok (.i2s, 1) ∧ decode b_Model_add 18 = .ok (.sastore, 1) ∧ decode b_Model_add 19 = .ok (.aload_n 0, 1) ∧ decode b_Model_add 20 = .ok (.getfield 17, 3) ∧ decode b_Model_add 23 = .ok (.iload_n 1, 1) ∧ decode b_Model_add 24 = .ok (.dup2, 1) ∧ decode b_Model_add 25 = .ok (.iaload, 1) ∧ decode b_Model_add 26 = .ok (.iconst 1, 1) ∧ decode b_Model_add 27 = .ok (.iadd, 1) ∧ decode b_Model_add 28 = .ok (.iastore, 1) ∧ decode b_Model_add 29 = .ok (.return_, 1) := ⟨by decide +kernel, by decide +kernel, by decide +kernel, by decide +kernel, by decide +kernel, by decide +kernel, by decide +kernel, by decide +kernel, by decide +kernel, by decide +kernel, by decide +kernel, by decide +kernel, by decide +kernel, by decide +kernel, by decide +kernel, by decide +kernel, by decide +kernel, by decide +kernel, by decide +kernel, by decide +kernel, by decide +kernel, by decide +kernel⟩
theorem v_Model_add : Cond.instanceMethod y_Model_add ∈ nm_Ts ∧ Cond.selects y_Model_add.cls y_Model_add y_Model_add ∈ nm_Ts ∧ Cond.initialized y_Model_add.cls ∈ nm_Ts ∧ Cond.code y_Model_add b_Model_add 3 none ∈ nm_Ts ∧ mz_cl1 y_Model_add 2 := ⟨nm_t4 159 rfl rfl, nm_s 20 rfl rfl, nm_t1 12 rfl rfl, nm_t4 160 rfl rfl, by decide +kernel⟩
def y_Model_wire : MethodName := ⟨"CardOfficeModel", "wire", "(III)Z"⟩
abbrev b_Model_wire : ByteArray := prog_14_method_18_code
def r_Model_wire (c s : Nat) : Room := { frames := 1, cells := c, slots := s, locals := 20 }
theorem d_Model_wire : decode b_Model_wire 0 = .ok (.aload_n 0, 1) ∧ decode b_Model_wire 1 = .ok (.iconst 0, 1) ∧ decode b_Model_wire 2 = .ok (.putfield 52, 3) ∧ decode b_Model_wire 5 = .ok (.iload_n 1, 1) ∧ decode b_Model_wire 6 = .ok (.invokestatic 82, 3) ∧ decode b_Model_wire 9 = .ok (.ifCond .eq 28, 3) ∧ decode b_Model_wire 12 = .ok (.iload_n 2, 1) ∧ decode b_Model_wire 13 = .ok (.invokestatic 85, 3) ∧ decode b_Model_wire 16 = .ok (.ifCond .eq 21, 3) ∧ decode b_Model_wire 19 = .ok (.iload_n 3, 1) ∧ decode b_Model_wire 20 = .ok (.invokestatic 88, 3) ∧ decode b_Model_wire 23 = .ok (.ifCond .eq 14, 3) ∧ decode b_Model_wire 26 = .ok (.aload_n 0, 1) ∧ decode b_Model_wire 27 = .ok (.getfield 33, 3) ∧ decode b_Model_wire 30 = .ok (.iload_n 1, 1) ∧ decode b_Model_wire 31 = .ok (.iaload, 1) ∧ decode b_Model_wire 32 = .ok (.bipush 40, 2) ∧ decode b_Model_wire 34 = .ok (.if_icmp .ne 5, 3) ∧ decode b_Model_wire 37 = .ok (.iconst 0, 1) ∧ decode b_Model_wire 38 = .ok (.ireturn, 1) ∧ decode b_Model_wire 39 = .ok (.bipush 40, 2) ∧ decode b_Model_wire 41 = .ok (.iload_n 1, 1) ∧ decode b_Model_wire 42 = .ok (.imul, 1) ∧ decode b_Model_wire 43 = .ok (.istore 4, 2) ∧ decode b_Model_wire 45 = .ok (.iload 4, 2) ∧ decode b_Model_wire 47 = .ok (.bipush 40, 2) ∧ decode b_Model_wire 49 = .ok (.iload_n 1, 1) ∧ decode b_Model_wire 50 = .ok (.imul, 1) ∧ decode b_Model_wire 51 = .ok (.aload_n 0, 1) ∧ decode b_Model_wire 52 = .ok (.getfield 33, 3) ∧ decode b_Model_wire 55 = .ok (.iload_n 1, 1) ∧ decode b_Model_wire 56 = .ok (.iaload, 1) ∧ decode b_Model_wire 57 = .ok (.iadd, 1) ∧ decode b_Model_wire 58 = .ok (.if_icmp .ge 33, 3) ∧ decode b_Model_wire 61 = .ok (.aload_n 0, 1) ∧ decode b_Model_wire 62 = .ok (.getfield 27, 3) ∧ decode b_Model_wire 65 = .ok (.iload 4, 2) ∧ decode b_Model_wire 67 = .ok (.baload, 1) ∧ decode b_Model_wire 68 = .ok (.iload_n 2, 1) ∧ decode b_Model_wire 69 = .ok (.if_icmp .ne 16, 3) ∧ decode b_Model_wire 72 = .ok (.aload_n 0, 1) ∧ decode b_Model_wire 73 = .ok (.getfield 30, 3) ∧ decode b_Model_wire 76 = .ok (.iload 4, 2) ∧ decode b_Model_wire 78 = .ok (.baload, 1) ∧ decode b_Model_wire 79 = .ok (.iload_n 3, 1) ∧ decode b_Model_wire 80 = .ok (.if_icmp .ne 5, 3) ∧ decode b_Model_wire 83 = .ok (.iconst 0, 1) ∧ decode b_Model_wire 84 = .ok (.ireturn, 1) ∧ decode b_Model_wire 85 = .ok (.iinc 4 1, 3) ∧ decode b_Model_wire 88 = .ok (.goto (-43), 3) ∧ decode b_Model_wire 91 = .ok (.aload_n 0, 1) ∧ decode b_Model_wire 92 = .ok (.getfield 27, 3) ∧ decode b_Model_wire 95 = .ok (.bipush 40, 2) ∧ decode b_Model_wire 97 = .ok (.iload_n 1, 1) ∧ decode b_Model_wire 98 = .ok (.imul, 1) ∧ decode b_Model_wire 99 = .ok (.aload_n 0, 1) ∧ decode b_Model_wire 100 = .ok (.getfield 33, 3) ∧ decode b_Model_wire 103 = .ok (.iload_n 1, 1) ∧ decode b_Model_wire 104 = .ok (.iaload, 1) ∧ decode b_Model_wire 105 = .ok (.iadd, 1) ∧ decode b_Model_wire 106 = .ok (.iload_n 2, 1) ∧ decode b_Model_wire 107 = .ok (.i2b, 1) ∧ decode b_Model_wire 108 = .ok (.bastore, 1) ∧ decode b_Model_wire 109 = .ok (.aload_n 0, 1) ∧ decode b_Model_wire 110 = .ok (.getfield 30, 3) ∧ decode b_Model_wire 113 = .ok (.bipush 40, 2) ∧ decode b_Model_wire 115 = .ok (.iload_n 1, 1) ∧ decode b_Model_wire 116 = .ok (.imul, 1) ∧ decode b_Model_wire 117 = .ok (.aload_n 0, 1) ∧ decode b_Model_wire 118 = .ok (.getfield 33, 3) ∧ decode b_Model_wire 121 = .ok (.iload_n 1, 1) ∧ decode b_Model_wire 122 = .ok (.iaload, 1) ∧ decode b_Model_wire 123 = .ok (.iadd, 1) ∧ decode b_Model_wire 124 = .ok (.iload_n 3, 1) ∧ decode b_Model_wire 125 = .ok (.i2b, 1) ∧ decode b_Model_wire 126 = .ok (.bastore, 1) ∧ decode b_Model_wire 127 = .ok (.aload_n 0, 1) ∧ decode b_Model_wire 128 = .ok (.getfield 33, 3) ∧ decode b_Model_wire 131 = .ok (.iload_n 1, 1) ∧ decode b_Model_wire 132 = .ok (.dup2, 1) ∧ decode b_Model_wire 133 = .ok (.iaload, 1) ∧ decode b_Model_wire 134 = .ok (.iconst 1, 1) ∧ decode b_Model_wire 135 = .ok (.iadd, 1) ∧ decode b_Model_wire 136 = .ok (.iastore, 1) ∧ decode b_Model_wire 137 = .ok (.iconst 1, 1) ∧ decode b_Model_wire 138 = .ok (.ireturn, 1) := ⟨by decide +kernel, by decide +kernel, by decide +kernel, by decide +kernel, by decide +kernel, by decide +kernel, by decide +kernel, by decide +kernel, by decide +kernel, by decide +kernel, by decide +kernel, by decide +kernel, by decide +kernel, by decide +kernel, by decide +kernel, by decide +kernel, by decide +kernel, by decide +kernel, by decide +kernel, by decide +kernel, by decide +kernel, by decide +kernel, by decide +kernel, by decide +kernel, by decide +kernel, by decide +kernel, by decide +kernel, by decide +kernel, by decide +kernel, by decide +kernel, by decide +kernel, by decide +kernel, by decide +kernel, by decide +kernel, by decide +kernel, by decide +kernel, by decide +kernel, by decide +kernel, by decide +kernel, by decide +kernel, by decide +kernel, by decide +kernel, by decide +kernel, by decide +kernel, by decide +kernel, by decide +kernel, by decide +kernel, by decide +kernel, by decide +kernel, by decide +kernel, by decide +kernel, by decide +kernel, by decide +kernel, by decide +kernel, by decide +kernel, by decide +kernel, by decide +kernel, by decide +kernel, by decide +kernel, by decide +kernel, by decide +kernel, by decide +kernel, by decide +kernel, by decide +kernel, by decide +kernel, by decide +kernel, by decide +kernel, by decide +kernel, by decide +kernel, by decide +kernel, by decide +kernel, by decide +kernel, by decide +kernel, by decide +kernel, by decide +kernel, by decide +kernel, by decide +kernel, by decide +kernel, by decide +kernel, by decide +kernel, by decide +kernel, by decide +kernel, by decide +kernel, by decide +kernel, by decide +kernel, by decide +kernel⟩
theorem v_Model_wire : Cond.instanceMethod y_Model_wire ∈ nm_Ts ∧ Cond.selects y_Model_wire.cls y_Model_wire y_Model_wire ∈ nm_Ts ∧ Cond.initialized y_Model_wire.cls ∈ nm_Ts ∧ Cond.code y_Model_wire b_Model_wire 5 (some .boolean) ∈ nm_Ts ∧ mz_cl1 y_Model_wire 3 := ⟨nm_t4 162 rfl rfl, nm_t4 163 rfl rfl, nm_t1 12 rfl rfl, nm_t4 164 rfl rfl, by decide +kernel⟩
def y_Model_isBoard : MethodName := ⟨"CardOfficeModel", "isBoard", "(I)Z"⟩
abbrev b_Model_isBoard : ByteArray := prog_14_method_12_code
def r_Model_isBoard (c s : Nat) : Room := { frames := 0, cells := c, slots := s, locals := 0 }
theorem d_Model_isBoard : decode b_Model_isBoard 0 = .ok (.iload_n 0, 1) ∧ decode b_Model_isBoard 1 = .ok (.ifCond .lt 12, 3) ∧ decode b_Model_isBoard 4 = .ok (.iload_n 0, 1) ∧ decode b_Model_isBoard 5 = .ok (.iconst 4, 1) ∧ decode b_Model_isBoard 6 = .ok (.if_icmp .ge 7, 3) ∧ decode b_Model_isBoard 9 = .ok (.iconst 1, 1) ∧ decode b_Model_isBoard 10 = .ok (.goto 4, 3) ∧ decode b_Model_isBoard 13 = .ok (.iconst 0, 1) ∧ decode b_Model_isBoard 14 = .ok (.ireturn, 1) := ⟨by decide +kernel, by decide +kernel, by decide +kernel, by decide +kernel, by decide +kernel, by decide +kernel, by decide +kernel, by decide +kernel, by decide +kernel⟩
theorem s_Model_isBoard : Cond.static y_Model_isBoard ∈ nm_Ts ∧ Cond.initialized y_Model_isBoard.cls ∈ nm_Ts ∧ Cond.code y_Model_isBoard b_Model_isBoard 1 (some .boolean) ∈ nm_Ts ∧ mz_cl1 y_Model_isBoard 1 := ⟨nm_t4 166 rfl rfl, nm_t1 12 rfl rfl, nm_t4 167 rfl rfl, by decide +kernel⟩
def y_Model_isFrom : MethodName := ⟨"CardOfficeModel", "isFrom", "(I)Z"⟩
abbrev b_Model_isFrom : ByteArray := prog_14_method_16_code
def r_Model_isFrom (c s : Nat) : Room := { frames := 0, cells := c, slots := s, locals := 0 }
theorem d_Model_isFrom : decode b_Model_isFrom 0 = .ok (.iload_n 0, 1) ∧ decode b_Model_isFrom 1 = .ok (.ifCond .lt 9, 3) ∧ decode b_Model_isFrom 4 = .ok (.iload_n 0, 1) ∧ decode b_Model_isFrom 5 = .ok (.bipush 26, 2) ∧ decode b_Model_isFrom 7 = .ok (.if_icmp .lt 15, 3) ∧ decode b_Model_isFrom 10 = .ok (.iload_n 0, 1) ∧ decode b_Model_isFrom 11 = .ok (.bipush 32, 2) ∧ decode b_Model_isFrom 13 = .ok (.if_icmp .lt 13, 3) ∧ decode b_Model_isFrom 16 = .ok (.iload_n 0, 1) ∧ decode b_Model_isFrom 17 = .ok (.bipush 56, 2) ∧ decode b_Model_isFrom 19 = .ok (.if_icmp .ge 7, 3) ∧ decode b_Model_isFrom 22 = .ok (.iconst 1, 1) ∧ decode b_Model_isFrom 23 = .ok (.goto 4, 3) ∧ decode b_Model_isFrom 26 = .ok (.iconst 0, 1) ∧ decode b_Model_isFrom 27 = .ok (.ireturn, 1) := ⟨by decide +kernel, by decide +kernel, by decide +kernel, by decide +kernel, by decide +kernel, by decide +kernel, by decide +kernel, by decide +kernel, by decide +kernel, by decide +kernel, by decide +kernel, by decide +kernel, by decide +kernel, by decide +kernel, by decide +kernel⟩
theorem s_Model_isFrom : Cond.static y_Model_isFrom ∈ nm_Ts ∧ Cond.initialized y_Model_isFrom.cls ∈ nm_Ts ∧ Cond.code y_Model_isFrom b_Model_isFrom 1 (some .boolean) ∈ nm_Ts ∧ mz_cl1 y_Model_isFrom 1 := ⟨nm_t4 169 rfl rfl, nm_t1 12 rfl rfl, nm_t4 170 rfl rfl, by decide +kernel⟩
def y_Model_isTo : MethodName := ⟨"CardOfficeModel", "isTo", "(I)Z"⟩
abbrev b_Model_isTo : ByteArray := prog_14_method_17_code
def r_Model_isTo (c s : Nat) : Room := { frames := 0, cells := c, slots := s, locals := 0 }
theorem d_Model_isTo : decode b_Model_isTo 0 = .ok (.iload_n 0, 1) ∧ decode b_Model_isTo 1 = .ok (.ifCond .lt 9, 3) ∧ decode b_Model_isTo 4 = .ok (.iload_n 0, 1) ∧ decode b_Model_isTo 5 = .ok (.bipush 16, 2) ∧ decode b_Model_isTo 7 = .ok (.if_icmp .lt 39, 3) ∧ decode b_Model_isTo 10 = .ok (.iload_n 0, 1) ∧ decode b_Model_isTo 11 = .ok (.bipush 32, 2) ∧ decode b_Model_isTo 13 = .ok (.if_icmp .lt 9, 3) ∧ decode b_Model_isTo 16 = .ok (.iload_n 0, 1) ∧ decode b_Model_isTo 17 = .ok (.bipush 56, 2) ∧ decode b_Model_isTo 19 = .ok (.if_icmp .lt 27, 3) ∧ decode b_Model_isTo 22 = .ok (.iload_n 0, 1) ∧ decode b_Model_isTo 23 = .ok (.bipush 64, 2) ∧ decode b_Model_isTo 25 = .ok (.if_icmp .lt 9, 3) ∧ decode b_Model_isTo 28 = .ok (.iload_n 0, 1) ∧ decode b_Model_isTo 29 = .ok (.bipush 88, 2) ∧ decode b_Model_isTo 31 = .ok (.if_icmp .lt 15, 3) ∧ decode b_Model_isTo 34 = .ok (.iload_n 0, 1) ∧ decode b_Model_isTo 35 = .ok (.bipush 96, 2) ∧ decode b_Model_isTo 37 = .ok (.if_icmp .lt 13, 3) ∧ decode b_Model_isTo 40 = .ok (.iload_n 0, 1) ∧ decode b_Model_isTo 41 = .ok (.bipush 100, 2) ∧ decode b_Model_isTo 43 = .ok (.if_icmp .ge 7, 3) ∧ decode b_Model_isTo 46 = .ok (.iconst 1, 1) ∧ decode b_Model_isTo 47 = .ok (.goto 4, 3) ∧ decode b_Model_isTo 50 = .ok (.iconst 0, 1) ∧ decode b_Model_isTo 51 = .ok (.ireturn, 1) := ⟨by decide +kernel, by decide +kernel, by decide +kernel, by decide +kernel, by decide +kernel, by decide +kernel, by decide +kernel, by decide +kernel, by decide +kernel, by decide +kernel, by decide +kernel, by decide +kernel, by decide +kernel, by decide +kernel, by decide +kernel, by decide +kernel, by decide +kernel, by decide +kernel, by decide +kernel, by decide +kernel, by decide +kernel, by decide +kernel, by decide +kernel, by decide +kernel, by decide +kernel, by decide +kernel, by decide +kernel⟩
theorem s_Model_isTo : Cond.static y_Model_isTo ∈ nm_Ts ∧ Cond.initialized y_Model_isTo.cls ∈ nm_Ts ∧ Cond.code y_Model_isTo b_Model_isTo 1 (some .boolean) ∈ nm_Ts ∧ mz_cl1 y_Model_isTo 1 := ⟨nm_t4 172 rfl rfl, nm_t1 12 rfl rfl, nm_t4 173 rfl rfl, by decide +kernel⟩
def y_Model_strip : MethodName := ⟨"CardOfficeModel", "strip", "(I)I"⟩
abbrev b_Model_strip : ByteArray := prog_14_method_19_code
def r_Model_strip (c s : Nat) : Room := { frames := 1, cells := c, slots := s, locals := 20 }
theorem d_Model_strip : decode b_Model_strip 0 = .ok (.aload_n 0, 1) ∧ decode b_Model_strip 1 = .ok (.iconst 0, 1) ∧ decode b_Model_strip 2 = .ok (.putfield 52, 3) ∧ decode b_Model_strip 5 = .ok (.iload_n 1, 1) ∧ decode b_Model_strip 6 = .ok (.invokestatic 82, 3) ∧ decode b_Model_strip 9 = .ok (.ifCond .ne 5, 3) ∧ decode b_Model_strip 12 = .ok (.iconst (-1), 1) ∧ decode b_Model_strip 13 = .ok (.ireturn, 1) ∧ decode b_Model_strip 14 = .ok (.aload_n 0, 1) ∧ decode b_Model_strip 15 = .ok (.getfield 33, 3) ∧ decode b_Model_strip 18 = .ok (.iload_n 1, 1) ∧ decode b_Model_strip 19 = .ok (.iaload, 1) ∧ decode b_Model_strip 20 = .ok (.istore_n 2, 1) ∧ decode b_Model_strip 21 = .ok (.aload_n 0, 1) ∧ decode b_Model_strip 22 = .ok (.getfield 33, 3) ∧ decode b_Model_strip 25 = .ok (.iload_n 1, 1) ∧ decode b_Model_strip 26 = .ok (.iconst 0, 1) ∧ decode b_Model_strip 27 = .ok (.iastore, 1) ∧ decode b_Model_strip 28 = .ok (.iconst 0, 1) ∧ decode b_Model_strip 29 = .ok (.istore_n 3, 1) ∧ decode b_Model_strip 30 = .ok (.iload_n 3, 1) ∧ decode b_Model_strip 31 = .ok (.iconst 4, 1) ∧ decode b_Model_strip 32 = .ok (.if_icmp .ge 20, 3) ∧ decode b_Model_strip 35 = .ok (.aload_n 0, 1) ∧ decode b_Model_strip 36 = .ok (.getfield 36, 3) ∧ decode b_Model_strip 39 = .ok (.iconst 4, 1) ∧ decode b_Model_strip 40 = .ok (.iload_n 1, 1) ∧ decode b_Model_strip 41 = .ok (.imul, 1) ∧ decode b_Model_strip 42 = .ok (.iload_n 3, 1) ∧ decode b_Model_strip 43 = .ok (.iadd, 1) ∧ decode b_Model_strip 44 = .ok (.iconst 3, 1) ∧ decode b_Model_strip 45 = .ok (.iastore, 1) ∧ decode b_Model_strip 46 = .ok (.iinc 3 1, 3) ∧ decode b_Model_strip 49 = .ok (.goto (-19), 3) ∧ decode b_Model_strip 52 = .ok (.iload_n 2, 1) ∧ decode b_Model_strip 53 = .ok (.ireturn, 1) := ⟨by decide +kernel, by decide +kernel, by decide +kernel, by decide +kernel, by decide +kernel, by decide +kernel, by decide +kernel, by decide +kernel, by decide +kernel, by decide +kernel, by decide +kernel, by decide +kernel, by decide +kernel, by decide +kernel, by decide +kernel, by decide +kernel, by decide +kernel, by decide +kernel, by decide +kernel, by decide +kernel, by decide +kernel, by decide +kernel, by decide +kernel, by decide +kernel, by decide +kernel, by decide +kernel, by decide +kernel, by decide +kernel, by decide +kernel, by decide +kernel, by decide +kernel, by decide +kernel, by decide +kernel, by decide +kernel, by decide +kernel, by decide +kernel⟩
theorem v_Model_strip : Cond.instanceMethod y_Model_strip ∈ nm_Ts ∧ Cond.selects y_Model_strip.cls y_Model_strip y_Model_strip ∈ nm_Ts ∧ Cond.initialized y_Model_strip.cls ∈ nm_Ts ∧ Cond.code y_Model_strip b_Model_strip 4 (some .int) ∈ nm_Ts ∧ mz_cl1 y_Model_strip 1 := ⟨nm_t4 175 rfl rfl, nm_t4 176 rfl rfl, nm_t1 12 rfl rfl, nm_t4 177 rfl rfl, by decide +kernel⟩
def y_Model_level : MethodName := ⟨"CardOfficeModel", "level", "(III)Z"⟩
abbrev b_Model_level : ByteArray := prog_14_method_20_code
def r_Model_level (c s : Nat) : Room := { frames := 1, cells := c, slots := s, locals := 20 }
theorem d_Model_level : decode b_Model_level 0 = .ok (.aload_n 0, 1) ∧ decode b_Model_level 1 = .ok (.iconst 0, 1) ∧ decode b_Model_level 2 = .ok (.putfield 52, 3) ∧ decode b_Model_level 5 = .ok (.iload_n 1, 1) ∧ decode b_Model_level 6 = .ok (.invokestatic 82, 3) ∧ decode b_Model_level 9 = .ok (.ifCond .eq 21, 3) ∧ decode b_Model_level 12 = .ok (.iload_n 2, 1) ∧ decode b_Model_level 13 = .ok (.ifCond .lt 17, 3) ∧ decode b_Model_level 16 = .ok (.iload_n 2, 1) ∧ decode b_Model_level 17 = .ok (.iconst 3, 1) ∧ decode b_Model_level 18 = .ok (.if_icmp .gt 12, 3) ∧ decode b_Model_level 21 = .ok (.iload_n 3, 1) ∧ decode b_Model_level 22 = .ok (.ifCond .lt 8, 3) ∧ decode b_Model_level 25 = .ok (.iload_n 3, 1) ∧ decode b_Model_level 26 = .ok (.iconst 3, 1) ∧ decode b_Model_level 27 = .ok (.if_icmp .le 5, 3) ∧ decode b_Model_level 30 = .ok (.iconst 0, 1) ∧ decode b_Model_level 31 = .ok (.ireturn, 1) ∧ decode b_Model_level 32 = .ok (.aload_n 0, 1) ∧ decode b_Model_level 33 = .ok (.getfield 36, 3) ∧ decode b_Model_level 36 = .ok (.iconst 4, 1) ∧ decode b_Model_level 37 = .ok (.iload_n 1, 1) ∧ decode b_Model_level 38 = .ok (.imul, 1) ∧ decode b_Model_level 39 = .ok (.iload_n 2, 1) ∧ decode b_Model_level 40 = .ok (.iadd, 1) ∧ decode b_Model_level 41 = .ok (.iload_n 3, 1) ∧ decode b_Model_level 42 = .ok (.iastore, 1) ∧ decode b_Model_level 43 = .ok (.iconst 1, 1) ∧ decode b_Model_level 44 = .ok (.ireturn, 1) := ⟨by decide +kernel, by decide +kernel, by decide +kernel, by decide +kernel, by decide +kernel, by decide +kernel, by decide +kernel, by decide +kernel, by decide +kernel, by decide +kernel, by decide +kernel, by decide +kernel, by decide +kernel, by decide +kernel, by decide +kernel, by decide +kernel, by decide +kernel, by decide +kernel, by decide +kernel, by decide +kernel, by decide +kernel, by decide +kernel, by decide +kernel, by decide +kernel, by decide +kernel, by decide +kernel, by decide +kernel, by decide +kernel, by decide +kernel⟩
theorem v_Model_level : Cond.instanceMethod y_Model_level ∈ nm_Ts ∧ Cond.selects y_Model_level.cls y_Model_level y_Model_level ∈ nm_Ts ∧ Cond.initialized y_Model_level.cls ∈ nm_Ts ∧ Cond.code y_Model_level b_Model_level 4 (some .boolean) ∈ nm_Ts ∧ mz_cl1 y_Model_level 3 := ⟨nm_t4 179 rfl rfl, nm_t4 180 rfl rfl, nm_t1 12 rfl rfl, nm_t4 181 rfl rfl, by decide +kernel⟩
def y_Model_pass : MethodName := ⟨"CardOfficeModel", "pass", "(IIZ)I"⟩
abbrev b_Model_pass : ByteArray := prog_14_method_25_code
def r_Model_pass (c s : Nat) : Room := { frames := 3, cells := c, slots := s, locals := 73 }
theorem d_Model_pass : decode b_Model_pass 0 = .ok (.aload_n 0, 1) ∧ decode b_Model_pass 1 = .ok (.iload_n 1, 1) ∧ decode b_Model_pass 2 = .ok (.invokestatic 65, 3) ∧ decode b_Model_pass 5 = .ok (.ifCond .eq 14, 3) ∧ decode b_Model_pass 8 = .ok (.iload_n 2, 1) ∧ decode b_Model_pass 9 = .ok (.invokestatic 108, 3) ∧ decode b_Model_pass 12 = .ok (.ifCond .eq 7, 3) ∧ decode b_Model_pass 15 = .ok (.iconst 0, 1) ∧ decode b_Model_pass 16 = .ok (.goto 4, 3) ∧ decode b_Model_pass 19 = .ok (.iconst 1, 1) ∧ decode b_Model_pass 20 = .ok (.putfield 52, 3) ∧ decode b_Model_pass 23 = .ok (.aload_n 0, 1) ∧ decode b_Model_pass 24 = .ok (.getfield 52, 3) ∧ decode b_Model_pass 27 = .ok (.ifCond .le 7, 3) ∧ decode b_Model_pass 30 = .ok (.iconst 0, 1) ∧ decode b_Model_pass 31 = .ok (.goto 10, 3) ∧ decode b_Model_pass 34 = .ok (.aload_n 0, 1) ∧ decode b_Model_pass 35 = .ok (.iload_n 1, 1) ∧ decode b_Model_pass 36 = .ok (.iload_n 2, 1) ∧ decode b_Model_pass 37 = .ok (.iload_n 3, 1) ∧ decode b_Model_pass 38 = .ok (.invokevirtual 111, 3) ∧ decode b_Model_pass 41 = .ok (.ireturn, 1) := ⟨by decide +kernel, by decide +kernel, by decide +kernel, by decide +kernel, by decide +kernel, by decide +kernel, by decide +kernel, by decide +kernel, by decide +kernel, by decide +kernel, by decide +kernel, by decide +kernel, by decide +kernel, by decide +kernel, by decide +kernel, by decide +kernel, by decide +kernel, by decide +kernel, by decide +kernel, by decide +kernel, by decide +kernel, by decide +kernel⟩
theorem v_Model_pass : Cond.instanceMethod y_Model_pass ∈ nm_Ts ∧ Cond.selects y_Model_pass.cls y_Model_pass y_Model_pass ∈ nm_Ts ∧ Cond.initialized y_Model_pass.cls ∈ nm_Ts ∧ Cond.code y_Model_pass b_Model_pass 4 (some .int) ∈ nm_Ts ∧ mz_cl1 y_Model_pass 3 := ⟨nm_t4 183 rfl rfl, nm_t4 184 rfl rfl, nm_t1 12 rfl rfl, nm_t4 185 rfl rfl, by decide +kernel⟩
def y_Model_isColumn : MethodName := ⟨"CardOfficeModel", "isColumn", "(I)Z"⟩
abbrev b_Model_isColumn : ByteArray := prog_14_method_10_code
def r_Model_isColumn (c s : Nat) : Room := { frames := 0, cells := c, slots := s, locals := 0 }
theorem d_Model_isColumn : decode b_Model_isColumn 0 = .ok (.iload_n 0, 1) ∧ decode b_Model_isColumn 1 = .ok (.ifCond .lt 13, 3) ∧ decode b_Model_isColumn 4 = .ok (.iload_n 0, 1) ∧ decode b_Model_isColumn 5 = .ok (.bipush 16, 2) ∧ decode b_Model_isColumn 7 = .ok (.if_icmp .ge 7, 3) ∧ decode b_Model_isColumn 10 = .ok (.iconst 1, 1) ∧ decode b_Model_isColumn 11 = .ok (.goto 4, 3) ∧ decode b_Model_isColumn 14 = .ok (.iconst 0, 1) ∧ decode b_Model_isColumn 15 = .ok (.ireturn, 1) := ⟨by decide +kernel, by decide +kernel, by decide +kernel, by decide +kernel, by decide +kernel, by decide +kernel, by decide +kernel, by decide +kernel, by decide +kernel⟩
theorem s_Model_isColumn : Cond.static y_Model_isColumn ∈ nm_Ts ∧ Cond.initialized y_Model_isColumn.cls ∈ nm_Ts ∧ Cond.code y_Model_isColumn b_Model_isColumn 1 (some .boolean) ∈ nm_Ts ∧ mz_cl1 y_Model_isColumn 1 := ⟨nm_t4 187 rfl rfl, nm_t1 12 rfl rfl, nm_t4 188 rfl rfl, by decide +kernel⟩
def y_Model_sift : MethodName := ⟨"CardOfficeModel", "sift", "(IIZ)I"⟩
abbrev b_Model_sift : ByteArray := prog_14_method_24_code
def r_Model_sift (c s : Nat) : Room := { frames := 2, cells := c, slots := s, locals := 45 }
theorem d_Model_sift : decode b_Model_sift 0 = .ok (.iconst 0, 1) ∧ decode b_Model_sift 1 = .ok (.istore 4, 2) ∧ decode b_Model_sift 3 = .ok (.iconst 0, 1) ∧ decode b_Model_sift 4 = .ok (.istore 5, 2) ∧ decode b_Model_sift 6 = .ok (.iconst 0, 1) ∧ decode b_Model_sift 7 = .ok (.istore 6, 2) ∧ decode b_Model_sift 9 = .ok (.iload 6, 2) ∧ decode b_Model_sift 11 = .ok (.bipush 11, 2) ∧ decode b_Model_sift 13 = .ok (.if_icmp .ge 86, 3) ∧ decode b_Model_sift 16 = .ok (.iload 4, 2) ∧ decode b_Model_sift 18 = .ok (.istore 7, 2) ∧ decode b_Model_sift 20 = .ok (.iconst 0, 1) ∧ decode b_Model_sift 21 = .ok (.istore 8, 2) ∧ decode b_Model_sift 23 = .ok (.iload 8, 2) ∧ decode b_Model_sift 25 = .ok (.aload_n 0, 1) ∧ decode b_Model_sift 26 = .ok (.getfield 17, 3) ∧ decode b_Model_sift 29 = .ok (.iload_n 1, 1) ∧ decode b_Model_sift 30 = .ok (.iaload, 1) ∧ decode b_Model_sift 31 = .ok (.if_icmp .ge 45, 3) ∧ decode b_Model_sift 34 = .ok (.aload_n 0, 1) ∧ decode b_Model_sift 35 = .ok (.aload_n 0, 1) ∧ decode b_Model_sift 36 = .ok (.iload_n 1, 1) ∧ decode b_Model_sift 37 = .ok (.iload 8, 2) ∧ decode b_Model_sift 39 = .ok (.invokevirtual 98, 3) ∧ decode b_Model_sift 42 = .ok (.iload_n 2, 1) ∧ decode b_Model_sift 43 = .ok (.iload_n 3, 1) ∧ decode b_Model_sift 44 = .ok (.invokevirtual 101, 3) ∧ decode b_Model_sift 47 = .ok (.iload 6, 2) ∧ decode b_Model_sift 49 = .ok (.if_icmp .ne 21, 3) ∧ decode b_Model_sift 52 = .ok (.aload_n 0, 1) ∧ decode b_Model_sift 53 = .ok (.getfield 21, 3) ∧ decode b_Model_sift 56 = .ok (.iload 4, 2) ∧ decode b_Model_sift 58 = .ok (.aload_n 0, 1) ∧ decode b_Model_sift 59 = .ok (.iload_n 1, 1) ∧ decode b_Model_sift 60 = .ok (.iload 8, 2) ∧ decode b_Model_sift 62 = .ok (.invokevirtual 98, 3) ∧ decode b_Model_sift 65 = .ok (.i2s, 1) ∧ decode b_Model_sift 66 = .ok (.sastore, 1) ∧ decode b_Model_sift 67 = .ok (.iinc 4 1, 3) ∧ decode b_Model_sift 70 = .ok (.iinc 8 1, 3) ∧ decode b_Model_sift 73 = .ok (.goto (-50), 3) ∧ decode b_Model_sift 76 = .ok (.iload 5, 2) ∧ decode b_Model_sift 78 = .ok (.iload 4, 2) ∧ decode b_Model_sift 80 = .ok (.iload 7, 2) ∧ decode b_Model_sift 82 = .ok (.if_icmp .le 7, 3) ∧ decode b_Model_sift 85 = .ok (.iconst 1, 1) ∧ decode b_Model_sift 86 = .ok (.goto 4, 3) ∧ decode b_Model_sift 89 = .ok (.iconst 0, 1) ∧ decode b_Model_sift 90 = .ok (.iadd, 1) ∧ decode b_Model_sift 91 = .ok (.istore 5, 2) ∧ decode b_Model_sift 93 = .ok (.iinc 6 1, 3) ∧ decode b_Model_sift 96 = .ok (.goto (-87), 3) ∧ decode b_Model_sift 99 = .ok (.iconst 0, 1) ∧ decode b_Model_sift 100 = .ok (.istore 6, 2) ∧ decode b_Model_sift 102 = .ok (.iload 6, 2) ∧ decode b_Model_sift 104 = .ok (.iload 4, 2) ∧ decode b_Model_sift 106 = .ok (.if_icmp .ge 29, 3) ∧ decode b_Model_sift 109 = .ok (.aload_n 0, 1) ∧ decode b_Model_sift 110 = .ok (.getfield 13, 3) ∧ decode b_Model_sift 113 = .ok (.sipush 200, 3) ∧ decode b_Model_sift 116 = .ok (.iload_n 1, 1) ∧ decode b_Model_sift 117 = .ok (.imul, 1) ∧ decode b_Model_sift 118 = .ok (.iload 6, 2) ∧ decode b_Model_sift 120 = .ok (.iadd, 1) ∧ decode b_Model_sift 121 = .ok (.aload_n 0, 1) ∧ decode b_Model_sift 122 = .ok (.getfield 21, 3) ∧ decode b_Model_sift 125 = .ok (.iload 6, 2) ∧ decode b_Model_sift 127 = .ok (.saload, 1) ∧ decode b_Model_sift 128 = .ok (.sastore, 1) ∧ decode b_Model_sift 129 = .ok (.iinc 6 1, 3) ∧ decode b_Model_sift 132 = .ok (.goto (-30), 3) ∧ decode b_Model_sift 135 = .ok (.aload_n 0, 1) ∧ decode b_Model_sift 136 = .ok (.dup, 1) ∧ decode b_Model_sift 137 = .ok (.getfield 105, 3) ∧ decode b_Model_sift 140 = .ok (.iconst 1, 1) ∧ decode b_Model_sift 141 = .ok (.iadd, 1) ∧ decode b_Model_sift 142 = .ok (.putfield 105, 3) ∧ decode b_Model_sift 145 = .ok (.iload 5, 2) ∧ decode b_Model_sift 147 = .ok (.ireturn, 1) := ⟨by decide +kernel, by decide +kernel, by decide +kernel, by decide +kernel, by decide +kernel, by decide +kernel, by decide +kernel, by decide +kernel, by decide +kernel, by decide +kernel, by decide +kernel, by decide +kernel, by decide +kernel, by decide +kernel, by decide +kernel, by decide +kernel, by decide +kernel, by decide +kernel, by decide +kernel, by decide +kernel, by decide +kernel, by decide +kernel, by decide +kernel, by decide +kernel, by decide +kernel, by decide +kernel, by decide +kernel, by decide +kernel, by decide +kernel, by decide +kernel, by decide +kernel, by decide +kernel, by decide +kernel, by decide +kernel, by decide +kernel, by decide +kernel, by decide +kernel, by decide +kernel, by decide +kernel, by decide +kernel, by decide +kernel, by decide +kernel, by decide +kernel, by decide +kernel, by decide +kernel, by decide +kernel, by decide +kernel, by decide +kernel, by decide +kernel, by decide +kernel, by decide +kernel, by decide +kernel, by decide +kernel, by decide +kernel, by decide +kernel, by decide +kernel, by decide +kernel, by decide +kernel, by decide +kernel, by decide +kernel, by decide +kernel, by decide +kernel, by decide +kernel, by decide +kernel, by decide +kernel, by decide +kernel, by decide +kernel, by decide +kernel, by decide +kernel, by decide +kernel, by decide +kernel, by decide +kernel, by decide +kernel, by decide +kernel, by decide +kernel, by decide +kernel, by decide +kernel, by decide +kernel, by decide +kernel⟩
theorem v_Model_sift : Cond.instanceMethod y_Model_sift ∈ nm_Ts ∧ Cond.selects y_Model_sift.cls y_Model_sift y_Model_sift ∈ nm_Ts ∧ Cond.initialized y_Model_sift.cls ∈ nm_Ts ∧ Cond.code y_Model_sift b_Model_sift 9 (some .int) ∈ nm_Ts ∧ mz_cl1 y_Model_sift 3 := ⟨nm_t4 191 rfl rfl, nm_s 21 rfl rfl, nm_t1 12 rfl rfl, nm_t4 192 rfl rfl, by decide +kernel⟩
def y_Model_cardAt : MethodName := ⟨"CardOfficeModel", "cardAt", "(II)I"⟩
abbrev b_Model_cardAt : ByteArray := prog_14_method_8_code
def r_Model_cardAt (c s : Nat) : Room := { frames := 0, cells := c, slots := s, locals := 0 }
theorem d_Model_cardAt : decode b_Model_cardAt 0 = .ok (.aload_n 0, 1) ∧ decode b_Model_cardAt 1 = .ok (.getfield 13, 3) ∧ decode b_Model_cardAt 4 = .ok (.sipush 200, 3) ∧ decode b_Model_cardAt 7 = .ok (.iload_n 1, 1) ∧ decode b_Model_cardAt 8 = .ok (.imul, 1) ∧ decode b_Model_cardAt 9 = .ok (.iload_n 2, 1) ∧ decode b_Model_cardAt 10 = .ok (.iadd, 1) ∧ decode b_Model_cardAt 11 = .ok (.saload, 1) ∧ decode b_Model_cardAt 12 = .ok (.ireturn, 1) := ⟨by decide +kernel, by decide +kernel, by decide +kernel, by decide +kernel, by decide +kernel, by decide +kernel, by decide +kernel, by decide +kernel, by decide +kernel⟩
theorem v_Model_cardAt : Cond.instanceMethod y_Model_cardAt ∈ nm_Ts ∧ Cond.selects y_Model_cardAt.cls y_Model_cardAt y_Model_cardAt ∈ nm_Ts ∧ Cond.initialized y_Model_cardAt.cls ∈ nm_Ts ∧ Cond.code y_Model_cardAt b_Model_cardAt 3 (some .int) ∈ nm_Ts ∧ mz_cl1 y_Model_cardAt 2 := ⟨nm_t4 195 rfl rfl, nm_s 22 rfl rfl, nm_t1 12 rfl rfl, nm_t4 196 rfl rfl, by decide +kernel⟩
def y_Model_keyOf : MethodName := ⟨"CardOfficeModel", "keyOf", "(IIZ)I"⟩
abbrev b_Model_keyOf : ByteArray := prog_14_method_23_code
def r_Model_keyOf (c s : Nat) : Room := { frames := 1, cells := c, slots := s, locals := 22 }
theorem d_Model_keyOf : decode b_Model_keyOf 0 = .ok (.iload_n 3, 1) ∧ decode b_Model_keyOf 1 = .ok (.ifCond .eq 15, 3) ∧ decode b_Model_keyOf 4 = .ok (.aload_n 0, 1) ∧ decode b_Model_keyOf 5 = .ok (.iload_n 1, 1) ∧ decode b_Model_keyOf 6 = .ok (.iload_n 2, 1) ∧ decode b_Model_keyOf 7 = .ok (.invokevirtual 91, 3) ∧ decode b_Model_keyOf 10 = .ok (.invokestatic 55, 3) ∧ decode b_Model_keyOf 13 = .ok (.goto 14, 3) ∧ decode b_Model_keyOf 16 = .ok (.aload_n 0, 1) ∧ decode b_Model_keyOf 17 = .ok (.iload_n 1, 1) ∧ decode b_Model_keyOf 18 = .ok (.iload_n 2, 1) ∧ decode b_Model_keyOf 19 = .ok (.invokevirtual 91, 3) ∧ decode b_Model_keyOf 22 = .ok (.invokestatic 59, 3) ∧ decode b_Model_keyOf 25 = .ok (.iconst 1, 1) ∧ decode b_Model_keyOf 26 = .ok (.iadd, 1) ∧ decode b_Model_keyOf 27 = .ok (.ireturn, 1) := ⟨by decide +kernel, by decide +kernel, by decide +kernel, by decide +kernel, by decide +kernel, by decide +kernel, by decide +kernel, by decide +kernel, by decide +kernel, by decide +kernel, by decide +kernel, by decide +kernel, by decide +kernel, by decide +kernel, by decide +kernel, by decide +kernel⟩
theorem v_Model_keyOf : Cond.instanceMethod y_Model_keyOf ∈ nm_Ts ∧ Cond.selects y_Model_keyOf.cls y_Model_keyOf y_Model_keyOf ∈ nm_Ts ∧ Cond.initialized y_Model_keyOf.cls ∈ nm_Ts ∧ Cond.code y_Model_keyOf b_Model_keyOf 4 (some .int) ∈ nm_Ts ∧ mz_cl1 y_Model_keyOf 3 := ⟨nm_t4 199 rfl rfl, nm_s 23 rfl rfl, nm_t1 12 rfl rfl, nm_t4 200 rfl rfl, by decide +kernel⟩
def y_Model_at : MethodName := ⟨"CardOfficeModel", "at", "(II)I"⟩
abbrev b_Model_at : ByteArray := prog_14_method_7_code
def r_Model_at (c s : Nat) : Room := { frames := 0, cells := c, slots := s, locals := 0 }
theorem d_Model_at : decode b_Model_at 0 = .ok (.aload_n 0, 1) ∧ decode b_Model_at 1 = .ok (.getfield 7, 3) ∧ decode b_Model_at 4 = .ok (.bipush 16, 2) ∧ decode b_Model_at 6 = .ok (.iload_n 1, 1) ∧ decode b_Model_at 7 = .ok (.imul, 1) ∧ decode b_Model_at 8 = .ok (.iload_n 2, 1) ∧ decode b_Model_at 9 = .ok (.iadd, 1) ∧ decode b_Model_at 10 = .ok (.baload, 1) ∧ decode b_Model_at 11 = .ok (.ireturn, 1) := ⟨by decide +kernel, by decide +kernel, by decide +kernel, by decide +kernel, by decide +kernel, by decide +kernel, by decide +kernel, by decide +kernel, by decide +kernel⟩
theorem v_Model_at : Cond.instanceMethod y_Model_at ∈ nm_Ts ∧ Cond.selects y_Model_at.cls y_Model_at y_Model_at ∈ nm_Ts ∧ Cond.initialized y_Model_at.cls ∈ nm_Ts ∧ Cond.code y_Model_at b_Model_at 3 (some .int) ∈ nm_Ts ∧ mz_cl1 y_Model_at 2 := ⟨nm_t4 203 rfl rfl, nm_s 24 rfl rfl, nm_t1 12 rfl rfl, nm_t4 204 rfl rfl, by decide +kernel⟩
def y_Model_zoneOf : MethodName := ⟨"CardOfficeModel", "zoneOf", "(I)I"⟩
abbrev b_Model_zoneOf : ByteArray := prog_14_method_5_code
def r_Model_zoneOf (c s : Nat) : Room := { frames := 0, cells := c, slots := s, locals := 0 }
theorem d_Model_zoneOf : decode b_Model_zoneOf 0 = .ok (.iload_n 0, 1) ∧ decode b_Model_zoneOf 1 = .ok (.bipush 65, 2) ∧ decode b_Model_zoneOf 3 = .ok (.if_icmp .ge 7, 3) ∧ decode b_Model_zoneOf 6 = .ok (.iconst 0, 1) ∧ decode b_Model_zoneOf 7 = .ok (.goto 24, 3) ∧ decode b_Model_zoneOf 10 = .ok (.iload_n 0, 1) ∧ decode b_Model_zoneOf 11 = .ok (.bipush 74, 2) ∧ decode b_Model_zoneOf 13 = .ok (.if_icmp .ge 7, 3) ∧ decode b_Model_zoneOf 16 = .ok (.iconst 3, 1) ∧ decode b_Model_zoneOf 17 = .ok (.goto 14, 3) ∧ decode b_Model_zoneOf 20 = .ok (.iload_n 0, 1) ∧ decode b_Model_zoneOf 21 = .ok (.bipush 83, 2) ∧ decode b_Model_zoneOf 23 = .ok (.if_icmp .ge 7, 3) ∧ decode b_Model_zoneOf 26 = .ok (.iconst 2, 1) ∧ decode b_Model_zoneOf 27 = .ok (.goto 4, 3) ∧ decode b_Model_zoneOf 30 = .ok (.iconst 1, 1) ∧ decode b_Model_zoneOf 31 = .ok (.ireturn, 1) := ⟨by decide +kernel, by decide +kernel, by decide +kernel, by decide +kernel, by decide +kernel, by decide +kernel, by decide +kernel, by decide +kernel, by decide +kernel, by decide +kernel, by decide +kernel, by decide +kernel, by decide +kernel, by decide +kernel, by decide +kernel, by decide +kernel, by decide +kernel⟩
theorem s_Model_zoneOf : Cond.static y_Model_zoneOf ∈ nm_Ts ∧ Cond.initialized y_Model_zoneOf.cls ∈ nm_Ts ∧ Cond.code y_Model_zoneOf b_Model_zoneOf 1 (some .int) ∈ nm_Ts ∧ mz_cl1 y_Model_zoneOf 1 := ⟨nm_t4 206 rfl rfl, nm_t1 12 rfl rfl, nm_t4 207 rfl rfl, by decide +kernel⟩
def y_Model_digitOf : MethodName := ⟨"CardOfficeModel", "digitOf", "(I)I"⟩
abbrev b_Model_digitOf : ByteArray := prog_14_method_4_code
def r_Model_digitOf (c s : Nat) : Room := { frames := 0, cells := c, slots := s, locals := 0 }
theorem d_Model_digitOf : decode b_Model_digitOf 0 = .ok (.iload_n 0, 1) ∧ decode b_Model_digitOf 1 = .ok (.bipush 32, 2) ∧ decode b_Model_digitOf 3 = .ok (.if_icmp .ne 5, 3) ∧ decode b_Model_digitOf 6 = .ok (.iconst (-1), 1) ∧ decode b_Model_digitOf 7 = .ok (.ireturn, 1) ∧ decode b_Model_digitOf 8 = .ok (.iload_n 0, 1) ∧ decode b_Model_digitOf 9 = .ok (.bipush 65, 2) ∧ decode b_Model_digitOf 11 = .ok (.if_icmp .ge 10, 3) ∧ decode b_Model_digitOf 14 = .ok (.iload_n 0, 1) ∧ decode b_Model_digitOf 15 = .ok (.bipush 48, 2) ∧ decode b_Model_digitOf 17 = .ok (.isub, 1) ∧ decode b_Model_digitOf 18 = .ok (.goto 33, 3) ∧ decode b_Model_digitOf 21 = .ok (.iload_n 0, 1) ∧ decode b_Model_digitOf 22 = .ok (.bipush 74, 2) ∧ decode b_Model_digitOf 24 = .ok (.if_icmp .ge 10, 3) ∧ decode b_Model_digitOf 27 = .ok (.iload_n 0, 1) ∧ decode b_Model_digitOf 28 = .ok (.bipush 64, 2) ∧ decode b_Model_digitOf 30 = .ok (.isub, 1) ∧ decode b_Model_digitOf 31 = .ok (.goto 20, 3) ∧ decode b_Model_digitOf 34 = .ok (.iload_n 0, 1) ∧ decode b_Model_digitOf 35 = .ok (.bipush 83, 2) ∧ decode b_Model_digitOf 37 = .ok (.if_icmp .ge 10, 3) ∧ decode b_Model_digitOf 40 = .ok (.iload_n 0, 1) ∧ decode b_Model_digitOf 41 = .ok (.bipush 73, 2) ∧ decode b_Model_digitOf 43 = .ok (.isub, 1) ∧ decode b_Model_digitOf 44 = .ok (.goto 7, 3) ∧ decode b_Model_digitOf 47 = .ok (.iload_n 0, 1) ∧ decode b_Model_digitOf 48 = .ok (.bipush 81, 2) ∧ decode b_Model_digitOf 50 = .ok (.isub, 1) ∧ decode b_Model_digitOf 51 = .ok (.ireturn, 1) := ⟨by decide +kernel, by decide +kernel, by decide +kernel, by decide +kernel, by decide +kernel, by decide +kernel, by decide +kernel, by decide +kernel, by decide +kernel, by decide +kernel, by decide +kernel, by decide +kernel, by decide +kernel, by decide +kernel, by decide +kernel, by decide +kernel, by decide +kernel, by decide +kernel, by decide +kernel, by decide +kernel, by decide +kernel, by decide +kernel, by decide +kernel, by decide +kernel, by decide +kernel, by decide +kernel, by decide +kernel, by decide +kernel, by decide +kernel, by decide +kernel⟩
theorem s_Model_digitOf : Cond.static y_Model_digitOf ∈ nm_Ts ∧ Cond.initialized y_Model_digitOf.cls ∈ nm_Ts ∧ Cond.code y_Model_digitOf b_Model_digitOf 1 (some .int) ∈ nm_Ts ∧ mz_cl1 y_Model_digitOf 1 := ⟨nm_t4 209 rfl rfl, nm_t1 12 rfl rfl, nm_t4 210 rfl rfl, by decide +kernel⟩
def y_Model_sort : MethodName := ⟨"CardOfficeModel", "sort", "(III)I"⟩
abbrev b_Model_sort : ByteArray := prog_14_method_29_code
def r_Model_sort (c s : Nat) : Room := { frames := 4, cells := c, slots := s, locals := 91 }
theorem d_Model_sort : decode b_Model_sort 0 = .ok (.aload_n 0, 1) ∧ decode b_Model_sort 1 = .ok (.iload_n 1, 1) ∧ decode b_Model_sort 2 = .ok (.invokestatic 65, 3) ∧ decode b_Model_sort 5 = .ok (.ifCond .eq 15, 3) ∧ decode b_Model_sort 8 = .ok (.iload_n 2, 1) ∧ decode b_Model_sort 9 = .ok (.iload_n 3, 1) ∧ decode b_Model_sort 10 = .ok (.invokestatic 121, 3) ∧ decode b_Model_sort 13 = .ok (.ifCond .eq 7, 3) ∧ decode b_Model_sort 16 = .ok (.iconst 0, 1) ∧ decode b_Model_sort 17 = .ok (.goto 4, 3) ∧ decode b_Model_sort 20 = .ok (.iconst 1, 1) ∧ decode b_Model_sort 21 = .ok (.putfield 52, 3) ∧ decode b_Model_sort 24 = .ok (.aload_n 0, 1) ∧ decode b_Model_sort 25 = .ok (.getfield 52, 3) ∧ decode b_Model_sort 28 = .ok (.ifCond .gt 13, 3) ∧ decode b_Model_sort 31 = .ok (.aload_n 0, 1) ∧ decode b_Model_sort 32 = .ok (.iload_n 1, 1) ∧ decode b_Model_sort 33 = .ok (.iload_n 2, 1) ∧ decode b_Model_sort 34 = .ok (.iload_n 3, 1) ∧ decode b_Model_sort 35 = .ok (.invokevirtual 125, 3) ∧ decode b_Model_sort 38 = .ok (.ifCond .eq 5, 3) ∧ decode b_Model_sort 41 = .ok (.iconst 0, 1) ∧ decode b_Model_sort 42 = .ok (.ireturn, 1) ∧ decode b_Model_sort 43 = .ok (.iconst 0, 1) ∧ decode b_Model_sort 44 = .ok (.istore 4, 2) ∧ decode b_Model_sort 46 = .ok (.iload_n 2, 1) ∧ decode b_Model_sort 47 = .ok (.istore 5, 2) ∧ decode b_Model_sort 49 = .ok (.iload 5, 2) ∧ decode b_Model_sort 51 = .ok (.iload_n 3, 1) ∧ decode b_Model_sort 52 = .ok (.if_icmp .gt 78, 3) ∧ decode b_Model_sort 55 = .ok (.iconst 0, 1) ∧ decode b_Model_sort 56 = .ok (.istore 6, 2) ∧ decode b_Model_sort 58 = .ok (.iconst 0, 1) ∧ decode b_Model_sort 59 = .ok (.istore 7, 2) ∧ decode b_Model_sort 61 = .ok (.iload 7, 2) ∧ decode b_Model_sort 63 = .ok (.aload_n 0, 1) ∧ decode b_Model_sort 64 = .ok (.getfield 17, 3) ∧ decode b_Model_sort 67 = .ok (.iload_n 1, 1) ∧ decode b_Model_sort 68 = .ok (.iaload, 1) ∧ decode b_Model_sort 69 = .ok (.if_icmp .ge 40, 3) ∧ decode b_Model_sort 72 = .ok (.iload 6, 2) ∧ decode b_Model_sort 74 = .ok (.ifCond .ne 22, 3) ∧ decode b_Model_sort 77 = .ok (.aload_n 0, 1) ∧ decode b_Model_sort 78 = .ok (.aload_n 0, 1) ∧ decode b_Model_sort 79 = .ok (.iload_n 1, 1) ∧ decode b_Model_sort 80 = .ok (.iload 7, 2) ∧ decode b_Model_sort 82 = .ok (.invokevirtual 98, 3) ∧ decode b_Model_sort 85 = .ok (.iload 5, 2) ∧ decode b_Model_sort 87 = .ok (.invokevirtual 91, 3) ∧ decode b_Model_sort 90 = .ok (.invokestatic 55, 3) ∧ decode b_Model_sort 93 = .ok (.ifCond .le 7, 3) ∧ decode b_Model_sort 96 = .ok (.iconst 1, 1) ∧ decode b_Model_sort 97 = .ok (.goto 4, 3) ∧ decode b_Model_sort 100 = .ok (.iconst 0, 1) ∧ decode b_Model_sort 101 = .ok (.istore 6, 2) ∧ decode b_Model_sort 103 = .ok (.iinc 7 1, 3) ∧ decode b_Model_sort 106 = .ok (.goto (-45), 3) ∧ decode b_Model_sort 109 = .ok (.iload 4, 2) ∧ decode b_Model_sort 111 = .ok (.iload 6, 2) ∧ decode b_Model_sort 113 = .ok (.ifCond .eq 7, 3) ∧ decode b_Model_sort 116 = .ok (.iconst 2, 1) ∧ decode b_Model_sort 117 = .ok (.goto 4, 3) ∧ decode b_Model_sort 120 = .ok (.iconst 1, 1) ∧ decode b_Model_sort 121 = .ok (.iadd, 1) ∧ decode b_Model_sort 122 = .ok (.istore 4, 2) ∧ decode b_Model_sort 124 = .ok (.iinc 5 1, 3) ∧ decode b_Model_sort 127 = .ok (.goto (-78), 3) ∧ decode b_Model_sort 130 = .ok (.iconst 0, 1) ∧ decode b_Model_sort 131 = .ok (.istore 5, 2) ∧ decode b_Model_sort 133 = .ok (.iload 5, 2) ∧ decode b_Model_sort 135 = .ok (.aload_n 0, 1) ∧ decode b_Model_sort 136 = .ok (.getfield 17, 3) ∧ decode b_Model_sort 139 = .ok (.iload_n 1, 1) ∧ decode b_Model_sort 140 = .ok (.iaload, 1) ∧ decode b_Model_sort 141 = .ok (.if_icmp .ge 28, 3) ∧ decode b_Model_sort 144 = .ok (.aload_n 0, 1) ∧ decode b_Model_sort 145 = .ok (.aload_n 0, 1) ∧ decode b_Model_sort 146 = .ok (.getfield 21, 3) ∧ decode b_Model_sort 149 = .ok (.iload 5, 2) ∧ decode b_Model_sort 151 = .ok (.aload_n 0, 1) ∧ decode b_Model_sort 152 = .ok (.iload_n 1, 1) ∧ decode b_Model_sort 153 = .ok (.iload 5, 2) ∧ decode b_Model_sort 155 = .ok (.invokevirtual 98, 3) ∧ decode b_Model_sort 158 = .ok (.iload_n 2, 1) ∧ decode b_Model_sort 159 = .ok (.iload_n 3, 1) ∧ decode b_Model_sort 160 = .ok (.invokevirtual 129, 3) ∧ decode b_Model_sort 163 = .ok (.iinc 5 1, 3) ∧ decode b_Model_sort 166 = .ok (.goto (-33), 3) ∧ decode b_Model_sort 169 = .ok (.iconst 0, 1) ∧ decode b_Model_sort 170 = .ok (.istore 5, 2) ∧ decode b_Model_sort 172 = .ok (.iload 5, 2) ∧ decode b_Model_sort 174 = .ok (.aload_n 0, 1) ∧ decode b_Model_sort 175 = .ok (.getfield 17, 3) ∧ decode b_Model_sort 178 = .ok (.iload_n 1, 1) ∧ decode b_Model_sort 179 = .ok (.iaload, 1) ∧ decode b_Model_sort 180 = .ok (.if_icmp .ge 29, 3) ∧ decode b_Model_sort 183 = .ok (.aload_n 0, 1) ∧ decode b_Model_sort 184 = .ok (.getfield 13, 3) ∧ decode b_Model_sort 187 = .ok (.sipush 200, 3) ∧ decode b_Model_sort 190 = .ok (.iload_n 1, 1) ∧ decode b_Model_sort 191 = .ok (.imul, 1) ∧ decode b_Model_sort 192 = .ok (.iload 5, 2) ∧ decode b_Model_sort 194 = .ok (.iadd, 1) ∧ decode b_Model_sort 195 = .ok (.aload_n 0, 1) ∧ decode b_Model_sort 196 = .ok (.getfield 21, 3) ∧ decode b_Model_sort 199 = .ok (.iload 5, 2) ∧ decode b_Model_sort 201 = .ok (.saload, 1) ∧ decode b_Model_sort 202 = .ok (.sastore, 1) ∧ decode b_Model_sort 203 = .ok (.iinc 5 1, 3) ∧ decode b_Model_sort 206 = .ok (.goto (-34), 3) ∧ decode b_Model_sort 209 = .ok (.aload_n 0, 1) ∧ decode b_Model_sort 210 = .ok (.dup, 1) ∧ decode b_Model_sort 211 = .ok (.getfield 105, 3) ∧ decode b_Model_sort 214 = .ok (.iload 4, 2) ∧ decode b_Model_sort 216 = .ok (.iadd, 1) ∧ decode b_Model_sort 217 = .ok (.putfield 105, 3) ∧ decode b_Model_sort 220 = .ok (.iload 4, 2) ∧ decode b_Model_sort 222 = .ok (.ireturn, 1) := ⟨by decide +kernel, by decide +kernel, by decide +kernel, by decide +kernel, by decide +kernel, by decide +kernel, by decide +kernel, by decide +kernel, by decide +kernel, by decide +kernel, by decide +kernel, by decide +kernel, by decide +kernel, by decide +kernel, by decide +kernel, by decide +kernel, by decide +kernel, by decide +kernel, by decide +kernel, by decide +kernel, by decide +kernel, by decide +kernel, by decide +kernel, by decide +kernel, by decide +kernel, by decide +kernel, by decide +kernel, by decide +kernel, by decide +kernel, by decide +kernel, by decide +kernel, by decide +kernel, by decide +kernel, by decide +kernel, by decide +kernel, by decide +kernel, by decide +kernel, by decide +kernel, by decide +kernel, by decide +kernel, by decide +kernel, by decide +kernel, by decide +kernel, by decide +kernel, by decide +kernel, by decide +kernel, by decide +kernel, by decide +kernel, by decide +kernel, by decide +kernel, by decide +kernel, by decide +kernel, by decide +kernel, by decide +kernel, by decide +kernel, by decide +kernel, by decide +kernel, by decide +kernel, by decide +kernel, by decide +kernel, by decide +kernel, by decide +kernel, by decide +kernel, by decide +kernel, by decide +kernel, by decide +kernel, by decide +kernel, by decide +kernel, by decide +kernel, by decide +kernel, by decide +kernel, by decide +kernel, by decide +kernel, by decide +kernel, by decide +kernel, by decide +kernel, by decide +kernel, by decide +kernel, by decide +kernel, by decide +kernel, by decide +kernel, by decide +kernel, by decide +kernel, by decide +kernel, by decide +kernel, by decide +kernel, by decide +kernel, by decide +kernel, by decide +kernel, by decide +kernel, by decide +kernel, by decide +kernel, by decide +kernel, by decide +kernel, by decide +kernel, by decide +kernel, by decide +kernel, by decide +kernel, by decide +kernel, by decide +kernel, by decide +kernel, by decide +kernel, by decide +kernel, by decide +kernel, by decide +kernel, by decide +kernel, by decide +kernel, by decide +kernel, by decide +kernel, by decide +kernel, by decide +kernel, by decide +kernel, by decide +kernel, by decide +kernel, by decide +kernel, by decide +kernel, by decide +kernel, by decide +kernel⟩
theorem v_Model_sort : Cond.instanceMethod y_Model_sort ∈ nm_Ts ∧ Cond.selects y_Model_sort.cls y_Model_sort y_Model_sort ∈ nm_Ts ∧ Cond.initialized y_Model_sort.cls ∈ nm_Ts ∧ Cond.code y_Model_sort b_Model_sort 8 (some .int) ∈ nm_Ts ∧ mz_cl1 y_Model_sort 3 := ⟨nm_t4 212 rfl rfl, nm_t4 213 rfl rfl, nm_t1 12 rfl rfl, nm_t4 214 rfl rfl, by decide +kernel⟩
def y_Model_isField : MethodName := ⟨"CardOfficeModel", "isField", "(II)Z"⟩
abbrev b_Model_isField : ByteArray := prog_14_method_11_code
def r_Model_isField (c s : Nat) : Room := { frames := 0, cells := c, slots := s, locals := 0 }
theorem d_Model_isField : decode b_Model_isField 0 = .ok (.iload_n 0, 1) ∧ decode b_Model_isField 1 = .ok (.ifCond .lt 18, 3) ∧ decode b_Model_isField 4 = .ok (.iload_n 0, 1) ∧ decode b_Model_isField 5 = .ok (.iload_n 1, 1) ∧ decode b_Model_isField 6 = .ok (.if_icmp .gt 13, 3) ∧ decode b_Model_isField 9 = .ok (.iload_n 1, 1) ∧ decode b_Model_isField 10 = .ok (.bipush 16, 2) ∧ decode b_Model_isField 12 = .ok (.if_icmp .ge 7, 3) ∧ decode b_Model_isField 15 = .ok (.iconst 1, 1) ∧ decode b_Model_isField 16 = .ok (.goto 4, 3) ∧ decode b_Model_isField 19 = .ok (.iconst 0, 1) ∧ decode b_Model_isField 20 = .ok (.ireturn, 1) := ⟨by decide +kernel, by decide +kernel, by decide +kernel, by decide +kernel, by decide +kernel, by decide +kernel, by decide +kernel, by decide +kernel, by decide +kernel, by decide +kernel, by decide +kernel, by decide +kernel⟩
theorem s_Model_isField : Cond.static y_Model_isField ∈ nm_Ts ∧ Cond.initialized y_Model_isField.cls ∈ nm_Ts ∧ Cond.code y_Model_isField b_Model_isField 2 (some .boolean) ∈ nm_Ts ∧ mz_cl1 y_Model_isField 2 := ⟨nm_t4 216 rfl rfl, nm_t1 12 rfl rfl, nm_t4 217 rfl rfl, by decide +kernel⟩
def y_Model_isSorted : MethodName := ⟨"CardOfficeModel", "isSorted", "(III)Z"⟩
abbrev b_Model_isSorted : ByteArray := prog_14_method_27_code
def r_Model_isSorted (c s : Nat) : Room := { frames := 3, cells := c, slots := s, locals := 65 }
theorem d_Model_isSorted : decode b_Model_isSorted 0 = .ok (.iconst 1, 1) ∧ decode b_Model_isSorted 1 = .ok (.istore 4, 2) ∧ decode b_Model_isSorted 3 = .ok (.iconst 1, 1) ∧ decode b_Model_isSorted 4 = .ok (.istore 5, 2) ∧ decode b_Model_isSorted 6 = .ok (.iload 5, 2) ∧ decode b_Model_isSorted 8 = .ok (.aload_n 0, 1) ∧ decode b_Model_isSorted 9 = .ok (.getfield 17, 3) ∧ decode b_Model_isSorted 12 = .ok (.iload_n 1, 1) ∧ decode b_Model_isSorted 13 = .ok (.iaload, 1) ∧ decode b_Model_isSorted 14 = .ok (.if_icmp .ge 46, 3) ∧ decode b_Model_isSorted 17 = .ok (.iload 4, 2) ∧ decode b_Model_isSorted 19 = .ok (.ifCond .eq 32, 3) ∧ decode b_Model_isSorted 22 = .ok (.aload_n 0, 1) ∧ decode b_Model_isSorted 23 = .ok (.aload_n 0, 1) ∧ decode b_Model_isSorted 24 = .ok (.iload_n 1, 1) ∧ decode b_Model_isSorted 25 = .ok (.iload 5, 2) ∧ decode b_Model_isSorted 27 = .ok (.iconst 1, 1) ∧ decode b_Model_isSorted 28 = .ok (.isub, 1) ∧ decode b_Model_isSorted 29 = .ok (.invokevirtual 98, 3) ∧ decode b_Model_isSorted 32 = .ok (.aload_n 0, 1) ∧ decode b_Model_isSorted 33 = .ok (.iload_n 1, 1) ∧ decode b_Model_isSorted 34 = .ok (.iload 5, 2) ∧ decode b_Model_isSorted 36 = .ok (.invokevirtual 98, 3) ∧ decode b_Model_isSorted 39 = .ok (.iload_n 2, 1) ∧ decode b_Model_isSorted 40 = .ok (.iload_n 3, 1) ∧ decode b_Model_isSorted 41 = .ok (.invokevirtual 117, 3) ∧ decode b_Model_isSorted 44 = .ok (.ifCond .gt 7, 3) ∧ decode b_Model_isSorted 47 = .ok (.iconst 1, 1) ∧ decode b_Model_isSorted 48 = .ok (.goto 4, 3) ∧ decode b_Model_isSorted 51 = .ok (.iconst 0, 1) ∧ decode b_Model_isSorted 52 = .ok (.istore 4, 2) ∧ decode b_Model_isSorted 54 = .ok (.iinc 5 1, 3) ∧ decode b_Model_isSorted 57 = .ok (.goto (-51), 3) ∧ decode b_Model_isSorted 60 = .ok (.iload 4, 2) ∧ decode b_Model_isSorted 62 = .ok (.ireturn, 1) := ⟨by decide +kernel, by decide +kernel, by decide +kernel, by decide +kernel, by decide +kernel, by decide +kernel, by decide +kernel, by decide +kernel, by decide +kernel, by decide +kernel, by decide +kernel, by decide +kernel, by decide +kernel, by decide +kernel, by decide +kernel, by decide +kernel, by decide +kernel, by decide +kernel, by decide +kernel, by decide +kernel, by decide +kernel, by decide +kernel, by decide +kernel, by decide +kernel, by decide +kernel, by decide +kernel, by decide +kernel, by decide +kernel, by decide +kernel, by decide +kernel, by decide +kernel, by decide +kernel, by decide +kernel, by decide +kernel, by decide +kernel⟩
theorem v_Model_isSorted : Cond.instanceMethod y_Model_isSorted ∈ nm_Ts ∧ Cond.selects y_Model_isSorted.cls y_Model_isSorted y_Model_isSorted ∈ nm_Ts ∧ Cond.initialized y_Model_isSorted.cls ∈ nm_Ts ∧ Cond.code y_Model_isSorted b_Model_isSorted 6 (some .boolean) ∈ nm_Ts ∧ mz_cl1 y_Model_isSorted 3 := ⟨nm_t4 220 rfl rfl, nm_s 25 rfl rfl, nm_t1 12 rfl rfl, nm_t4 221 rfl rfl, by decide +kernel⟩
def y_Model_compare : MethodName := ⟨"CardOfficeModel", "compare", "(IIII)I"⟩
abbrev b_Model_compare : ByteArray := prog_14_method_26_code
def r_Model_compare (c s : Nat) : Room := { frames := 2, cells := c, slots := s, locals := 40 }
theorem d_Model_compare : decode b_Model_compare 0 = .ok (.iload_n 3, 1) ∧ decode b_Model_compare 1 = .ok (.istore 5, 2) ∧ decode b_Model_compare 3 = .ok (.iload 5, 2) ∧ decode b_Model_compare 5 = .ok (.iload 4, 2) ∧ decode b_Model_compare 7 = .ok (.if_icmp .gt 48, 3) ∧ decode b_Model_compare 10 = .ok (.aload_n 0, 1) ∧ decode b_Model_compare 11 = .ok (.iload_n 1, 1) ∧ decode b_Model_compare 12 = .ok (.iload 5, 2) ∧ decode b_Model_compare 14 = .ok (.invokevirtual 91, 3) ∧ decode b_Model_compare 17 = .ok (.aload_n 0, 1) ∧ decode b_Model_compare 18 = .ok (.iload_n 2, 1) ∧ decode b_Model_compare 19 = .ok (.iload 5, 2) ∧ decode b_Model_compare 21 = .ok (.invokevirtual 91, 3) ∧ decode b_Model_compare 24 = .ok (.if_icmp .eq 25, 3) ∧ decode b_Model_compare 27 = .ok (.aload_n 0, 1) ∧ decode b_Model_compare 28 = .ok (.iload_n 1, 1) ∧ decode b_Model_compare 29 = .ok (.iload 5, 2) ∧ decode b_Model_compare 31 = .ok (.invokevirtual 91, 3) ∧ decode b_Model_compare 34 = .ok (.invokestatic 114, 3) ∧ decode b_Model_compare 37 = .ok (.aload_n 0, 1) ∧ decode b_Model_compare 38 = .ok (.iload_n 2, 1) ∧ decode b_Model_compare 39 = .ok (.iload 5, 2) ∧ decode b_Model_compare 41 = .ok (.invokevirtual 91, 3) ∧ decode b_Model_compare 44 = .ok (.invokestatic 114, 3) ∧ decode b_Model_compare 47 = .ok (.isub, 1) ∧ decode b_Model_compare 48 = .ok (.ireturn, 1) ∧ decode b_Model_compare 49 = .ok (.iinc 5 1, 3) ∧ decode b_Model_compare 52 = .ok (.goto (-49), 3) ∧ decode b_Model_compare 55 = .ok (.iconst 0, 1) ∧ decode b_Model_compare 56 = .ok (.ireturn, 1) := ⟨by decide +kernel, by decide +kernel, by decide +kernel, by decide +kernel, by decide +kernel, by decide +kernel, by decide +kernel, by decide +kernel, by decide +kernel, by decide +kernel, by decide +kernel, by decide +kernel, by decide +kernel, by decide +kernel, by decide +kernel, by decide +kernel, by decide +kernel, by decide +kernel, by decide +kernel, by decide +kernel, by decide +kernel, by decide +kernel, by decide +kernel, by decide +kernel, by decide +kernel, by decide +kernel, by decide +kernel, by decide +kernel, by decide +kernel, by decide +kernel⟩
theorem v_Model_compare : Cond.instanceMethod y_Model_compare ∈ nm_Ts ∧ Cond.selects y_Model_compare.cls y_Model_compare y_Model_compare ∈ nm_Ts ∧ Cond.initialized y_Model_compare.cls ∈ nm_Ts ∧ Cond.code y_Model_compare b_Model_compare 6 (some .int) ∈ nm_Ts ∧ mz_cl1 y_Model_compare 4 := ⟨nm_t4 224 rfl rfl, nm_s 26 rfl rfl, nm_t1 12 rfl rfl, nm_t4 225 rfl rfl, by decide +kernel⟩
def y_Model_rank : MethodName := ⟨"CardOfficeModel", "rank", "(I)I"⟩
abbrev b_Model_rank : ByteArray := prog_14_method_6_code
def r_Model_rank (c s : Nat) : Room := { frames := 1, cells := c, slots := s, locals := 20 }
theorem d_Model_rank : decode b_Model_rank 0 = .ok (.bipush 16, 2) ∧ decode b_Model_rank 2 = .ok (.iload_n 0, 1) ∧ decode b_Model_rank 3 = .ok (.invokestatic 55, 3) ∧ decode b_Model_rank 6 = .ok (.imul, 1) ∧ decode b_Model_rank 7 = .ok (.iload_n 0, 1) ∧ decode b_Model_rank 8 = .ok (.invokestatic 59, 3) ∧ decode b_Model_rank 11 = .ok (.iadd, 1) ∧ decode b_Model_rank 12 = .ok (.iconst 1, 1) ∧ decode b_Model_rank 13 = .ok (.iadd, 1) ∧ decode b_Model_rank 14 = .ok (.ireturn, 1) := ⟨by decide +kernel, by decide +kernel, by decide +kernel, by decide +kernel, by decide +kernel, by decide +kernel, by decide +kernel, by decide +kernel, by decide +kernel, by decide +kernel⟩
theorem s_Model_rank : Cond.static y_Model_rank ∈ nm_Ts ∧ Cond.initialized y_Model_rank.cls ∈ nm_Ts ∧ Cond.code y_Model_rank b_Model_rank 1 (some .int) ∈ nm_Ts ∧ mz_cl1 y_Model_rank 1 := ⟨nm_t4 227 rfl rfl, nm_t1 12 rfl rfl, nm_t4 228 rfl rfl, by decide +kernel⟩
def y_Model_putIn : MethodName := ⟨"CardOfficeModel", "putIn", "([SIIII)V"⟩
abbrev b_Model_putIn : ByteArray := prog_14_method_28_code
def r_Model_putIn (c s : Nat) : Room := { frames := 3, cells := c, slots := s, locals := 65 }
theorem d_Model_putIn : decode b_Model_putIn 0 = .ok (.iload_n 2, 1) ∧ decode b_Model_putIn 1 = .ok (.istore 6, 2) ∧ decode b_Model_putIn 3 = .ok (.iload 6, 2) ∧ decode b_Model_putIn 5 = .ok (.ifCond .le 37, 3) ∧ decode b_Model_putIn 8 = .ok (.aload_n 0, 1) ∧ decode b_Model_putIn 9 = .ok (.aload_n 1, 1) ∧ decode b_Model_putIn 10 = .ok (.iload 6, 2) ∧ decode b_Model_putIn 12 = .ok (.iconst 1, 1) ∧ decode b_Model_putIn 13 = .ok (.isub, 1) ∧ decode b_Model_putIn 14 = .ok (.saload, 1) ∧ decode b_Model_putIn 15 = .ok (.iload_n 3, 1) ∧ decode b_Model_putIn 16 = .ok (.iload 4, 2) ∧ decode b_Model_putIn 18 = .ok (.iload 5, 2) ∧ decode b_Model_putIn 20 = .ok (.invokevirtual 117, 3) ∧ decode b_Model_putIn 23 = .ok (.ifCond .le 19, 3) ∧ decode b_Model_putIn 26 = .ok (.aload_n 1, 1) ∧ decode b_Model_putIn 27 = .ok (.iload 6, 2) ∧ decode b_Model_putIn 29 = .ok (.aload_n 1, 1) ∧ decode b_Model_putIn 30 = .ok (.iload 6, 2) ∧ decode b_Model_putIn 32 = .ok (.iconst 1, 1) ∧ decode b_Model_putIn 33 = .ok (.isub, 1) ∧ decode b_Model_putIn 34 = .ok (.saload, 1) ∧ decode b_Model_putIn 35 = .ok (.sastore, 1) ∧ decode b_Model_putIn 36 = .ok (.iinc 6 (-1), 3) ∧ decode b_Model_putIn 39 = .ok (.goto (-36), 3) ∧ decode b_Model_putIn 42 = .ok (.aload_n 1, 1) ∧ decode b_Model_putIn 43 = .ok (.iload 6, 2) ∧ decode b_Model_putIn 45 = .ok (.iload_n 3, 1) ∧ decode b_Model_putIn 46 = .ok (.i2s, 1) ∧ decode b_Model_putIn 47 = .ok (.sastore, 1) ∧ decode b_Model_putIn 48 = .ok (.return_, 1) := ⟨by decide +kernel, by decide +kernel, by decide +kernel, by decide +kernel, by decide +kernel, by decide +kernel, by decide +kernel, by decide +kernel, by decide +kernel, by decide +kernel, by decide +kernel, by decide +kernel, by decide +kernel, by decide +kernel, by decide +kernel, by decide +kernel, by decide +kernel, by decide +kernel, by decide +kernel, by decide +kernel, by decide +kernel, by decide +kernel, by decide +kernel, by decide +kernel, by decide +kernel, by decide +kernel, by decide +kernel, by decide +kernel, by decide +kernel, by decide +kernel, by decide +kernel⟩
theorem v_Model_putIn : Cond.instanceMethod y_Model_putIn ∈ nm_Ts ∧ Cond.selects y_Model_putIn.cls y_Model_putIn y_Model_putIn ∈ nm_Ts ∧ Cond.initialized y_Model_putIn.cls ∈ nm_Ts ∧ Cond.code y_Model_putIn b_Model_putIn 7 none ∈ nm_Ts ∧ mz_cl1 y_Model_putIn 5 := ⟨nm_t4 231 rfl rfl, nm_s 27 rfl rfl, nm_t1 12 rfl rfl, nm_t4 232 rfl rfl, by decide +kernel⟩
def y_Model_merge : MethodName := ⟨"CardOfficeModel", "merge", "(IIII)I"⟩
abbrev b_Model_merge : ByteArray := prog_14_method_30_code
def r_Model_merge (c s : Nat) : Room := { frames := 4, cells := c, slots := s, locals := 91 }
theorem d_Model_merge : decode b_Model_merge 0 = .ok (.iload_n 1, 1) ∧ decode b_Model_merge 1 = .ok (.invokestatic 65, 3) ∧ decode b_Model_merge 4 = .ok (.ifCond .eq 28, 3) ∧ decode b_Model_merge 7 = .ok (.iload_n 2, 1) ∧ decode b_Model_merge 8 = .ok (.invokestatic 65, 3) ∧ decode b_Model_merge 11 = .ok (.ifCond .eq 21, 3) ∧ decode b_Model_merge 14 = .ok (.iload_n 1, 1) ∧ decode b_Model_merge 15 = .ok (.iload_n 2, 1) ∧ decode b_Model_merge 16 = .ok (.if_icmp .eq 16, 3) ∧ decode b_Model_merge 19 = .ok (.iload_n 3, 1) ∧ decode b_Model_merge 20 = .ok (.iload 4, 2) ∧ decode b_Model_merge 22 = .ok (.invokestatic 121, 3) ∧ decode b_Model_merge 25 = .ok (.ifCond .eq 7, 3) ∧ decode b_Model_merge 28 = .ok (.iconst 1, 1) ∧ decode b_Model_merge 29 = .ok (.goto 4, 3) ∧ decode b_Model_merge 32 = .ok (.iconst 0, 1) ∧ decode b_Model_merge 33 = .ok (.istore 5, 2) ∧ decode b_Model_merge 35 = .ok (.aload_n 0, 1) ∧ decode b_Model_merge 36 = .ok (.iload 5, 2) ∧ decode b_Model_merge 38 = .ok (.ifCond .ne 7, 3) ∧ decode b_Model_merge 41 = .ok (.iconst 1, 1) ∧ decode b_Model_merge 42 = .ok (.goto 30, 3) ∧ decode b_Model_merge 45 = .ok (.aload_n 0, 1) ∧ decode b_Model_merge 46 = .ok (.iload_n 1, 1) ∧ decode b_Model_merge 47 = .ok (.iload_n 3, 1) ∧ decode b_Model_merge 48 = .ok (.iload 4, 2) ∧ decode b_Model_merge 50 = .ok (.invokevirtual 125, 3) ∧ decode b_Model_merge 53 = .ok (.ifCond .eq 14, 3) ∧ decode b_Model_merge 56 = .ok (.aload_n 0, 1) ∧ decode b_Model_merge 57 = .ok (.iload_n 2, 1) ∧ decode b_Model_merge 58 = .ok (.iload_n 3, 1) ∧ decode b_Model_merge 59 = .ok (.iload 4, 2) ∧ decode b_Model_merge 61 = .ok (.invokevirtual 125, 3) ∧ decode b_Model_merge 64 = .ok (.ifCond .ne 7, 3) ∧ decode b_Model_merge 67 = .ok (.iconst 2, 1) ∧ decode b_Model_merge 68 = .ok (.goto 4, 3) ∧ decode b_Model_merge 71 = .ok (.iconst 0, 1) ∧ decode b_Model_merge 72 = .ok (.putfield 52, 3) ∧ decode b_Model_merge 75 = .ok (.aload_n 0, 1) ∧ decode b_Model_merge 76 = .ok (.getfield 52, 3) ∧ decode b_Model_merge 79 = .ok (.ifCond .le 5, 3) ∧ decode b_Model_merge 82 = .ok (.iconst 0, 1) ∧ decode b_Model_merge 83 = .ok (.ireturn, 1) ∧ decode b_Model_merge 84 = .ok (.iconst 0, 1) ∧ decode b_Model_merge 85 = .ok (.istore 6, 2) ∧ decode b_Model_merge 87 = .ok (.iload 6, 2) ∧ decode b_Model_merge 89 = .ok (.aload_n 0, 1) ∧ decode b_Model_merge 90 = .ok (.getfield 17, 3) ∧ decode b_Model_merge 93 = .ok (.iload_n 1, 1) ∧ decode b_Model_merge 94 = .ok (.iaload, 1) ∧ decode b_Model_merge 95 = .ok (.if_icmp .ge 24, 3) ∧ decode b_Model_merge 98 = .ok (.aload_n 0, 1) ∧ decode b_Model_merge 99 = .ok (.getfield 21, 3) ∧ decode b_Model_merge 102 = .ok (.iload 6, 2) ∧ decode b_Model_merge 104 = .ok (.aload_n 0, 1) ∧ decode b_Model_merge 105 = .ok (.iload_n 1, 1) ∧ decode b_Model_merge 106 = .ok (.iload 6, 2) ∧ decode b_Model_merge 108 = .ok (.invokevirtual 98, 3) ∧ decode b_Model_merge 111 = .ok (.i2s, 1) ∧ decode b_Model_merge 112 = .ok (.sastore, 1) ∧ decode b_Model_merge 113 = .ok (.iinc 6 1, 3) ∧ decode b_Model_merge 116 = .ok (.goto (-29), 3) ∧ decode b_Model_merge 119 = .ok (.aload_n 0, 1) ∧ decode b_Model_merge 120 = .ok (.getfield 17, 3) ∧ decode b_Model_merge 123 = .ok (.iload_n 1, 1) ∧ decode b_Model_merge 124 = .ok (.iaload, 1) ∧ decode b_Model_merge 125 = .ok (.istore 6, 2) ∧ decode b_Model_merge 127 = .ok (.iconst 0, 1) ∧ decode b_Model_merge 128 = .ok (.istore 7, 2) ∧ decode b_Model_merge 130 = .ok (.iload 7, 2) ∧ decode b_Model_merge 132 = .ok (.aload_n 0, 1) ∧ decode b_Model_merge 133 = .ok (.getfield 17, 3) ∧ decode b_Model_merge 136 = .ok (.iload_n 2, 1) ∧ decode b_Model_merge 137 = .ok (.iaload, 1) ∧ decode b_Model_merge 138 = .ok (.if_icmp .ge 32, 3) ∧ decode b_Model_merge 141 = .ok (.aload_n 0, 1) ∧ decode b_Model_merge 142 = .ok (.aload_n 0, 1) ∧ decode b_Model_merge 143 = .ok (.getfield 21, 3) ∧ decode b_Model_merge 146 = .ok (.iload 6, 2) ∧ decode b_Model_merge 148 = .ok (.aload_n 0, 1) ∧ decode b_Model_merge 149 = .ok (.iload_n 2, 1) ∧ decode b_Model_merge 150 = .ok (.iload 7, 2) ∧ decode b_Model_merge 152 = .ok (.invokevirtual 98, 3) ∧ decode b_Model_merge 155 = .ok (.iload_n 3, 1) ∧ decode b_Model_merge 156 = .ok (.iload 4, 2) ∧ decode b_Model_merge 158 = .ok (.invokevirtual 129, 3) ∧ decode b_Model_merge 161 = .ok (.iinc 6 1, 3) ∧ decode b_Model_merge 164 = .ok (.iinc 7 1, 3) ∧ decode b_Model_merge 167 = .ok (.goto (-37), 3) ∧ decode b_Model_merge 170 = .ok (.iconst 0, 1) ∧ decode b_Model_merge 171 = .ok (.istore 7, 2) ∧ decode b_Model_merge 173 = .ok (.iload 7, 2) ∧ decode b_Model_merge 175 = .ok (.iload 6, 2) ∧ decode b_Model_merge 177 = .ok (.if_icmp .ge 29, 3) ∧ decode b_Model_merge 180 = .ok (.aload_n 0, 1) ∧ decode b_Model_merge 181 = .ok (.getfield 13, 3) ∧ decode b_Model_merge 184 = .ok (.sipush 200, 3) ∧ decode b_Model_merge 187 = .ok (.iload_n 1, 1) ∧ decode b_Model_merge 188 = .ok (.imul, 1) ∧ decode b_Model_merge 189 = .ok (.iload 7, 2) ∧ decode b_Model_merge 191 = .ok (.iadd, 1) ∧ decode b_Model_merge 192 = .ok (.aload_n 0, 1) ∧ decode b_Model_merge 193 = .ok (.getfield 21, 3) ∧ decode b_Model_merge 196 = .ok (.iload 7, 2) ∧ decode b_Model_merge 198 = .ok (.saload, 1) ∧ decode b_Model_merge 199 = .ok (.sastore, 1) ∧ decode b_Model_merge 200 = .ok (.iinc 7 1, 3) ∧ decode b_Model_merge 203 = .ok (.goto (-30), 3) ∧ decode b_Model_merge 206 = .ok (.aload_n 0, 1) ∧ decode b_Model_merge 207 = .ok (.dup, 1) ∧ decode b_Model_merge 208 = .ok (.getfield 133, 3) ∧ decode b_Model_merge 211 = .ok (.aload_n 0, 1) ∧ decode b_Model_merge 212 = .ok (.getfield 17, 3) ∧ decode b_Model_merge 215 = .ok (.iload_n 2, 1) ∧ decode b_Model_merge 216 = .ok (.iaload, 1) ∧ decode b_Model_merge 217 = .ok (.iadd, 1) ∧ decode b_Model_merge 218 = .ok (.putfield 133, 3) ∧ decode b_Model_merge 221 = .ok (.aload_n 0, 1) ∧ decode b_Model_merge 222 = .ok (.getfield 17, 3) ∧ decode b_Model_merge 225 = .ok (.iload_n 1, 1) ∧ decode b_Model_merge 226 = .ok (.iload 6, 2) ∧ decode b_Model_merge 228 = .ok (.iastore, 1) ∧ decode b_Model_merge 229 = .ok (.aload_n 0, 1) ∧ decode b_Model_merge 230 = .ok (.getfield 17, 3) ∧ decode b_Model_merge 233 = .ok (.iload_n 2, 1) ∧ decode b_Model_merge 234 = .ok (.iconst 0, 1) ∧ decode b_Model_merge 235 = .ok (.iastore, 1) ∧ decode b_Model_merge 236 = .ok (.iload 6, 2) ∧ decode b_Model_merge 238 = .ok (.ireturn, 1) := ⟨by decide +kernel, by decide +kernel, by decide +kernel, by decide +kernel, by decide +kernel, by decide +kernel, by decide +kernel, by decide +kernel, by decide +kernel, by decide +kernel, by decide +kernel, by decide +kernel, by decide +kernel, by decide +kernel, by decide +kernel, by decide +kernel, by decide +kernel, by decide +kernel, by decide +kernel, by decide +kernel, by decide +kernel, by decide +kernel, by decide +kernel, by decide +kernel, by decide +kernel, by decide +kernel, by decide +kernel, by decide +kernel, by decide +kernel, by decide +kernel, by decide +kernel, by decide +kernel, by decide +kernel, by decide +kernel, by decide +kernel, by decide +kernel, by decide +kernel, by decide +kernel, by decide +kernel, by decide +kernel, by decide +kernel, by decide +kernel, by decide +kernel, by decide +kernel, by decide +kernel, by decide +kernel, by decide +kernel, by decide +kernel, by decide +kernel, by decide +kernel, by decide +kernel, by decide +kernel, by decide +kernel, by decide +kernel, by decide +kernel, by decide +kernel, by decide +kernel, by decide +kernel, by decide +kernel, by decide +kernel, by decide +kernel, by decide +kernel, by decide +kernel, by decide +kernel, by decide +kernel, by decide +kernel, by decide +kernel, by decide +kernel, by decide +kernel, by decide +kernel, by decide +kernel, by decide +kernel, by decide +kernel, by decide +kernel, by decide +kernel, by decide +kernel, by decide +kernel, by decide +kernel, by decide +kernel, by decide +kernel, by decide +kernel, by decide +kernel, by decide +kernel, by decide +kernel, by decide +kernel, by decide +kernel, by decide +kernel, by decide +kernel, by decide +kernel, by decide +kernel, by decide +kernel, by decide +kernel, by decide +kernel, by decide +kernel, by decide +kernel, by decide +kernel, by decide +kernel, by decide +kernel, by decide +kernel, by decide +kernel, by decide +kernel, by decide +kernel, by decide +kernel, by decide +kernel, by decide +kernel, by decide +kernel, by decide +kernel, by decide +kernel, by decide +kernel, by decide +kernel, by decide +kernel, by decide +kernel, by decide +kernel, by decide +kernel, by decide +kernel, by decide +kernel, by decide +kernel, by decide +kernel, by decide +kernel, by decide +kernel, by decide +kernel, by decide +kernel, by decide +kernel, by decide +kernel, by decide +kernel, by decide +kernel, by decide +kernel, by decide +kernel, by decide +kernel⟩
theorem v_Model_merge : Cond.instanceMethod y_Model_merge ∈ nm_Ts ∧ Cond.selects y_Model_merge.cls y_Model_merge y_Model_merge ∈ nm_Ts ∧ Cond.initialized y_Model_merge.cls ∈ nm_Ts ∧ Cond.code y_Model_merge b_Model_merge 8 (some .int) ∈ nm_Ts ∧ mz_cl1 y_Model_merge 4 := ⟨nm_t4 234 rfl rfl, nm_t4 235 rfl rfl, nm_t1 12 rfl rfl, nm_t4 236 rfl rfl, by decide +kernel⟩
def y_Model_match : MethodName := ⟨"CardOfficeModel", "match", "(IIIII)I"⟩
abbrev b_Model_match : ByteArray := prog_14_method_34_code
def r_Model_match (c s : Nat) : Room := { frames := 5, cells := c, slots := s, locals := 118 }
theorem d_Model_match : decode b_Model_match 0 = .ok (.iload_n 1, 1) ∧ decode b_Model_match 1 = .ok (.invokestatic 65, 3) ∧ decode b_Model_match 4 = .ok (.ifCond .eq 46, 3) ∧ decode b_Model_match 7 = .ok (.iload_n 2, 1) ∧ decode b_Model_match 8 = .ok (.invokestatic 65, 3) ∧ decode b_Model_match 11 = .ok (.ifCond .eq 39, 3) ∧ decode b_Model_match 14 = .ok (.iload_n 3, 1) ∧ decode b_Model_match 15 = .ok (.invokestatic 65, 3) ∧ decode b_Model_match 18 = .ok (.ifCond .eq 32, 3) ∧ decode b_Model_match 21 = .ok (.iload_n 1, 1) ∧ decode b_Model_match 22 = .ok (.iload_n 2, 1) ∧ decode b_Model_match 23 = .ok (.if_icmp .eq 27, 3) ∧ decode b_Model_match 26 = .ok (.iload_n 1, 1) ∧ decode b_Model_match 27 = .ok (.iload_n 3, 1) ∧ decode b_Model_match 28 = .ok (.if_icmp .eq 22, 3) ∧ decode b_Model_match 31 = .ok (.iload_n 2, 1) ∧ decode b_Model_match 32 = .ok (.iload_n 3, 1) ∧ decode b_Model_match 33 = .ok (.if_icmp .eq 17, 3) ∧ decode b_Model_match 36 = .ok (.iload 4, 2) ∧ decode b_Model_match 38 = .ok (.iload 5, 2) ∧ decode b_Model_match 40 = .ok (.invokestatic 121, 3) ∧ decode b_Model_match 43 = .ok (.ifCond .eq 7, 3) ∧ decode b_Model_match 46 = .ok (.iconst 1, 1) ∧ decode b_Model_match 47 = .ok (.goto 4, 3) ∧ decode b_Model_match 50 = .ok (.iconst 0, 1) ∧ decode b_Model_match 51 = .ok (.istore 6, 2) ∧ decode b_Model_match 53 = .ok (.aload_n 0, 1) ∧ decode b_Model_match 54 = .ok (.iload 6, 2) ∧ decode b_Model_match 56 = .ok (.ifCond .ne 7, 3) ∧ decode b_Model_match 59 = .ok (.iconst 1, 1) ∧ decode b_Model_match 60 = .ok (.goto 32, 3) ∧ decode b_Model_match 63 = .ok (.aload_n 0, 1) ∧ decode b_Model_match 64 = .ok (.iload_n 1, 1) ∧ decode b_Model_match 65 = .ok (.iload 4, 2) ∧ decode b_Model_match 67 = .ok (.iload 5, 2) ∧ decode b_Model_match 69 = .ok (.invokevirtual 125, 3) ∧ decode b_Model_match 72 = .ok (.ifCond .eq 15, 3) ∧ decode b_Model_match 75 = .ok (.aload_n 0, 1) ∧ decode b_Model_match 76 = .ok (.iload_n 2, 1) ∧ decode b_Model_match 77 = .ok (.iload 4, 2) ∧ decode b_Model_match 79 = .ok (.iload 5, 2) ∧ decode b_Model_match 81 = .ok (.invokevirtual 125, 3) ∧ decode b_Model_match 84 = .ok (.ifCond .ne 7, 3) ∧ decode b_Model_match 87 = .ok (.iconst 2, 1) ∧ decode b_Model_match 88 = .ok (.goto 4, 3) ∧ decode b_Model_match 91 = .ok (.iconst 0, 1) ∧ decode b_Model_match 92 = .ok (.putfield 52, 3) ∧ decode b_Model_match 95 = .ok (.aload_n 0, 1) ∧ decode b_Model_match 96 = .ok (.getfield 52, 3) ∧ decode b_Model_match 99 = .ok (.ifCond .le 5, 3) ∧ decode b_Model_match 102 = .ok (.iconst 0, 1) ∧ decode b_Model_match 103 = .ok (.ireturn, 1) ∧ decode b_Model_match 104 = .ok (.aload_n 0, 1) ∧ decode b_Model_match 105 = .ok (.iload_n 1, 1) ∧ decode b_Model_match 106 = .ok (.iload_n 2, 1) ∧ decode b_Model_match 107 = .ok (.iload 4, 2) ∧ decode b_Model_match 109 = .ok (.iload 5, 2) ∧ decode b_Model_match 111 = .ok (.iconst 0, 1) ∧ decode b_Model_match 112 = .ok (.invokevirtual 140, 3) ∧ decode b_Model_match 115 = .ok (.istore 7, 2) ∧ decode b_Model_match 117 = .ok (.aload_n 0, 1) ∧ decode b_Model_match 118 = .ok (.iload_n 2, 1) ∧ decode b_Model_match 119 = .ok (.iload_n 1, 1) ∧ decode b_Model_match 120 = .ok (.iload 4, 2) ∧ decode b_Model_match 122 = .ok (.iload 5, 2) ∧ decode b_Model_match 124 = .ok (.iload 7, 2) ∧ decode b_Model_match 126 = .ok (.invokevirtual 140, 3) ∧ decode b_Model_match 129 = .ok (.istore 7, 2) ∧ decode b_Model_match 131 = .ok (.aload_n 0, 1) ∧ decode b_Model_match 132 = .ok (.iload_n 1, 1) ∧ decode b_Model_match 133 = .ok (.iload 7, 2) ∧ decode b_Model_match 135 = .ok (.iload 4, 2) ∧ decode b_Model_match 137 = .ok (.iload 5, 2) ∧ decode b_Model_match 139 = .ok (.invokevirtual 144, 3) ∧ decode b_Model_match 142 = .ok (.aload_n 0, 1) ∧ decode b_Model_match 143 = .ok (.iload_n 2, 1) ∧ decode b_Model_match 144 = .ok (.iload 7, 2) ∧ decode b_Model_match 146 = .ok (.iload 4, 2) ∧ decode b_Model_match 148 = .ok (.iload 5, 2) ∧ decode b_Model_match 150 = .ok (.invokevirtual 144, 3) ∧ decode b_Model_match 153 = .ok (.iconst 0, 1) ∧ decode b_Model_match 154 = .ok (.istore 8, 2) ∧ decode b_Model_match 156 = .ok (.iload 8, 2) ∧ decode b_Model_match 158 = .ok (.iload 7, 2) ∧ decode b_Model_match 160 = .ok (.if_icmp .ge 21, 3) ∧ decode b_Model_match 163 = .ok (.aload_n 0, 1) ∧ decode b_Model_match 164 = .ok (.iload_n 3, 1) ∧ decode b_Model_match 165 = .ok (.aload_n 0, 1) ∧ decode b_Model_match 166 = .ok (.getfield 21, 3) ∧ decode b_Model_match 169 = .ok (.iload 8, 2) ∧ decode b_Model_match 171 = .ok (.saload, 1) ∧ decode b_Model_match 172 = .ok (.invokevirtual 78, 3) ∧ decode b_Model_match 175 = .ok (.iinc 8 1, 3) ∧ decode b_Model_match 178 = .ok (.goto (-22), 3) ∧ decode b_Model_match 181 = .ok (.aload_n 0, 1) ∧ decode b_Model_match 182 = .ok (.dup, 1) ∧ decode b_Model_match 183 = .ok (.getfield 133, 3) ∧ decode b_Model_match 186 = .ok (.iload 7, 2) ∧ decode b_Model_match 188 = .ok (.iadd, 1) ∧ decode b_Model_match 189 = .ok (.putfield 133, 3) ∧ decode b_Model_match 192 = .ok (.iload 7, 2) ∧ decode b_Model_match 194 = .ok (.ireturn, 1) := ⟨by decide +kernel, by decide +kernel, by decide +kernel, by decide +kernel, by decide +kernel, by decide +kernel, by decide +kernel, by decide +kernel, by decide +kernel, by decide +kernel, by decide +kernel, by decide +kernel, by decide +kernel, by decide +kernel, by decide +kernel, by decide +kernel, by decide +kernel, by decide +kernel, by decide +kernel, by decide +kernel, by decide +kernel, by decide +kernel, by decide +kernel, by decide +kernel, by decide +kernel, by decide +kernel, by decide +kernel, by decide +kernel, by decide +kernel, by decide +kernel, by decide +kernel, by decide +kernel, by decide +kernel, by decide +kernel, by decide +kernel, by decide +kernel, by decide +kernel, by decide +kernel, by decide +kernel, by decide +kernel, by decide +kernel, by decide +kernel, by decide +kernel, by decide +kernel, by decide +kernel, by decide +kernel, by decide +kernel, by decide +kernel, by decide +kernel, by decide +kernel, by decide +kernel, by decide +kernel, by decide +kernel, by decide +kernel, by decide +kernel, by decide +kernel, by decide +kernel, by decide +kernel, by decide +kernel, by decide +kernel, by decide +kernel, by decide +kernel, by decide +kernel, by decide +kernel, by decide +kernel, by decide +kernel, by decide +kernel, by decide +kernel, by decide +kernel, by decide +kernel, by decide +kernel, by decide +kernel, by decide +kernel, by decide +kernel, by decide +kernel, by decide +kernel, by decide +kernel, by decide +kernel, by decide +kernel, by decide +kernel, by decide +kernel, by decide +kernel, by decide +kernel, by decide +kernel, by decide +kernel, by decide +kernel, by decide +kernel, by decide +kernel, by decide +kernel, by decide +kernel, by decide +kernel, by decide +kernel, by decide +kernel, by decide +kernel, by decide +kernel, by decide +kernel, by decide +kernel, by decide +kernel, by decide +kernel, by decide +kernel, by decide +kernel, by decide +kernel⟩
theorem v_Model_match : Cond.instanceMethod y_Model_match ∈ nm_Ts ∧ Cond.selects y_Model_match.cls y_Model_match y_Model_match ∈ nm_Ts ∧ Cond.initialized y_Model_match.cls ∈ nm_Ts ∧ Cond.code y_Model_match b_Model_match 9 (some .int) ∈ nm_Ts ∧ mz_cl1 y_Model_match 5 := ⟨nm_t4 238 rfl rfl, nm_t4 239 rfl rfl, nm_t1 12 rfl rfl, nm_t5 0 rfl rfl, by decide +kernel⟩
def y_Model_take : MethodName := ⟨"CardOfficeModel", "take", "(IIIII)I"⟩
abbrev b_Model_take : ByteArray := prog_14_method_32_code
def r_Model_take (c s : Nat) : Room := { frames := 4, cells := c, slots := s, locals := 91 }
theorem d_Model_take : decode b_Model_take 0 = .ok (.iload 5, 2) ∧ decode b_Model_take 2 = .ok (.istore 6, 2) ∧ decode b_Model_take 4 = .ok (.iconst 0, 1) ∧ decode b_Model_take 5 = .ok (.istore 7, 2) ∧ decode b_Model_take 7 = .ok (.iload 7, 2) ∧ decode b_Model_take 9 = .ok (.aload_n 0, 1) ∧ decode b_Model_take 10 = .ok (.getfield 17, 3) ∧ decode b_Model_take 13 = .ok (.iload_n 1, 1) ∧ decode b_Model_take 14 = .ok (.iaload, 1) ∧ decode b_Model_take 15 = .ok (.if_icmp .ge 50, 3) ∧ decode b_Model_take 18 = .ok (.aload_n 0, 1) ∧ decode b_Model_take 19 = .ok (.iload_n 2, 1) ∧ decode b_Model_take 20 = .ok (.aload_n 0, 1) ∧ decode b_Model_take 21 = .ok (.iload_n 1, 1) ∧ decode b_Model_take 22 = .ok (.iload 7, 2) ∧ decode b_Model_take 24 = .ok (.invokevirtual 98, 3) ∧ decode b_Model_take 27 = .ok (.iload_n 3, 1) ∧ decode b_Model_take 28 = .ok (.iload 4, 2) ∧ decode b_Model_take 30 = .ok (.invokevirtual 136, 3) ∧ decode b_Model_take 33 = .ok (.ifCond .eq 26, 3) ∧ decode b_Model_take 36 = .ok (.aload_n 0, 1) ∧ decode b_Model_take 37 = .ok (.aload_n 0, 1) ∧ decode b_Model_take 38 = .ok (.getfield 21, 3) ∧ decode b_Model_take 41 = .ok (.iload 6, 2) ∧ decode b_Model_take 43 = .ok (.aload_n 0, 1) ∧ decode b_Model_take 44 = .ok (.iload_n 1, 1) ∧ decode b_Model_take 45 = .ok (.iload 7, 2) ∧ decode b_Model_take 47 = .ok (.invokevirtual 98, 3) ∧ decode b_Model_take 50 = .ok (.iload_n 3, 1) ∧ decode b_Model_take 51 = .ok (.iload 4, 2) ∧ decode b_Model_take 53 = .ok (.invokevirtual 129, 3) ∧ decode b_Model_take 56 = .ok (.iinc 6 1, 3) ∧ decode b_Model_take 59 = .ok (.iinc 7 1, 3) ∧ decode b_Model_take 62 = .ok (.goto (-55), 3) ∧ decode b_Model_take 65 = .ok (.iload 6, 2) ∧ decode b_Model_take 67 = .ok (.ireturn, 1) := ⟨by decide +kernel, by decide +kernel, by decide +kernel, by decide +kernel, by decide +kernel, by decide +kernel, by decide +kernel, by decide +kernel, by decide +kernel, by decide +kernel, by decide +kernel, by decide +kernel, by decide +kernel, by decide +kernel, by decide +kernel, by decide +kernel, by decide +kernel, by decide +kernel, by decide +kernel, by decide +kernel, by decide +kernel, by decide +kernel, by decide +kernel, by decide +kernel, by decide +kernel, by decide +kernel, by decide +kernel, by decide +kernel, by decide +kernel, by decide +kernel, by decide +kernel, by decide +kernel, by decide +kernel, by decide +kernel, by decide +kernel, by decide +kernel⟩
theorem v_Model_take : Cond.instanceMethod y_Model_take ∈ nm_Ts ∧ Cond.selects y_Model_take.cls y_Model_take y_Model_take ∈ nm_Ts ∧ Cond.initialized y_Model_take.cls ∈ nm_Ts ∧ Cond.code y_Model_take b_Model_take 8 (some .int) ∈ nm_Ts ∧ mz_cl1 y_Model_take 5 := ⟨nm_t5 3 rfl rfl, nm_s 28 rfl rfl, nm_t1 12 rfl rfl, nm_t5 4 rfl rfl, by decide +kernel⟩
def y_Model_hasKey : MethodName := ⟨"CardOfficeModel", "hasKey", "(IIII)Z"⟩
abbrev b_Model_hasKey : ByteArray := prog_14_method_31_code
def r_Model_hasKey (c s : Nat) : Room := { frames := 3, cells := c, slots := s, locals := 65 }
theorem d_Model_hasKey : decode b_Model_hasKey 0 = .ok (.iconst 0, 1) ∧ decode b_Model_hasKey 1 = .ok (.istore 5, 2) ∧ decode b_Model_hasKey 3 = .ok (.iconst 0, 1) ∧ decode b_Model_hasKey 4 = .ok (.istore 6, 2) ∧ decode b_Model_hasKey 6 = .ok (.iload 6, 2) ∧ decode b_Model_hasKey 8 = .ok (.aload_n 0, 1) ∧ decode b_Model_hasKey 9 = .ok (.getfield 17, 3) ∧ decode b_Model_hasKey 12 = .ok (.iload_n 1, 1) ∧ decode b_Model_hasKey 13 = .ok (.iaload, 1) ∧ decode b_Model_hasKey 14 = .ok (.if_icmp .ge 39, 3) ∧ decode b_Model_hasKey 17 = .ok (.iload 5, 2) ∧ decode b_Model_hasKey 19 = .ok (.ifCond .ne 21, 3) ∧ decode b_Model_hasKey 22 = .ok (.aload_n 0, 1) ∧ decode b_Model_hasKey 23 = .ok (.aload_n 0, 1) ∧ decode b_Model_hasKey 24 = .ok (.iload_n 1, 1) ∧ decode b_Model_hasKey 25 = .ok (.iload 6, 2) ∧ decode b_Model_hasKey 27 = .ok (.invokevirtual 98, 3) ∧ decode b_Model_hasKey 30 = .ok (.iload_n 2, 1) ∧ decode b_Model_hasKey 31 = .ok (.iload_n 3, 1) ∧ decode b_Model_hasKey 32 = .ok (.iload 4, 2) ∧ decode b_Model_hasKey 34 = .ok (.invokevirtual 117, 3) ∧ decode b_Model_hasKey 37 = .ok (.ifCond .ne 7, 3) ∧ decode b_Model_hasKey 40 = .ok (.iconst 1, 1) ∧ decode b_Model_hasKey 41 = .ok (.goto 4, 3) ∧ decode b_Model_hasKey 44 = .ok (.iconst 0, 1) ∧ decode b_Model_hasKey 45 = .ok (.istore 5, 2) ∧ decode b_Model_hasKey 47 = .ok (.iinc 6 1, 3) ∧ decode b_Model_hasKey 50 = .ok (.goto (-44), 3) ∧ decode b_Model_hasKey 53 = .ok (.iload 5, 2) ∧ decode b_Model_hasKey 55 = .ok (.ireturn, 1) := ⟨by decide +kernel, by decide +kernel, by decide +kernel, by decide +kernel, by decide +kernel, by decide +kernel, by decide +kernel, by decide +kernel, by decide +kernel, by decide +kernel, by decide +kernel, by decide +kernel, by decide +kernel, by decide +kernel, by decide +kernel, by decide +kernel, by decide +kernel, by decide +kernel, by decide +kernel, by decide +kernel, by decide +kernel, by decide +kernel, by decide +kernel, by decide +kernel, by decide +kernel, by decide +kernel, by decide +kernel, by decide +kernel, by decide +kernel, by decide +kernel⟩
theorem v_Model_hasKey : Cond.instanceMethod y_Model_hasKey ∈ nm_Ts ∧ Cond.selects y_Model_hasKey.cls y_Model_hasKey y_Model_hasKey ∈ nm_Ts ∧ Cond.initialized y_Model_hasKey.cls ∈ nm_Ts ∧ Cond.code y_Model_hasKey b_Model_hasKey 7 (some .boolean) ∈ nm_Ts ∧ mz_cl1 y_Model_hasKey 4 := ⟨nm_t5 7 rfl rfl, nm_s 29 rfl rfl, nm_t1 12 rfl rfl, nm_t5 8 rfl rfl, by decide +kernel⟩
def y_Model_leave : MethodName := ⟨"CardOfficeModel", "leave", "(IIII)V"⟩
abbrev b_Model_leave : ByteArray := prog_14_method_33_code
def r_Model_leave (c s : Nat) : Room := { frames := 1, cells := c, slots := s, locals := 22 }
theorem d_Model_leave : decode b_Model_leave 0 = .ok (.iconst 0, 1) ∧ decode b_Model_leave 1 = .ok (.istore 5, 2) ∧ decode b_Model_leave 3 = .ok (.iconst 0, 1) ∧ decode b_Model_leave 4 = .ok (.istore 6, 2) ∧ decode b_Model_leave 6 = .ok (.iload 6, 2) ∧ decode b_Model_leave 8 = .ok (.aload_n 0, 1) ∧ decode b_Model_leave 9 = .ok (.getfield 17, 3) ∧ decode b_Model_leave 12 = .ok (.iload_n 1, 1) ∧ decode b_Model_leave 13 = .ok (.iaload, 1) ∧ decode b_Model_leave 14 = .ok (.if_icmp .ge 79, 3) ∧ decode b_Model_leave 17 = .ok (.iconst 0, 1) ∧ decode b_Model_leave 18 = .ok (.istore 7, 2) ∧ decode b_Model_leave 20 = .ok (.iconst 0, 1) ∧ decode b_Model_leave 21 = .ok (.istore 8, 2) ∧ decode b_Model_leave 23 = .ok (.iload 8, 2) ∧ decode b_Model_leave 25 = .ok (.iload_n 2, 1) ∧ decode b_Model_leave 26 = .ok (.if_icmp .ge 38, 3) ∧ decode b_Model_leave 29 = .ok (.iload 7, 2) ∧ decode b_Model_leave 31 = .ok (.ifCond .ne 20, 3) ∧ decode b_Model_leave 34 = .ok (.aload_n 0, 1) ∧ decode b_Model_leave 35 = .ok (.getfield 21, 3) ∧ decode b_Model_leave 38 = .ok (.iload 8, 2) ∧ decode b_Model_leave 40 = .ok (.saload, 1) ∧ decode b_Model_leave 41 = .ok (.aload_n 0, 1) ∧ decode b_Model_leave 42 = .ok (.iload_n 1, 1) ∧ decode b_Model_leave 43 = .ok (.iload 6, 2) ∧ decode b_Model_leave 45 = .ok (.invokevirtual 98, 3) ∧ decode b_Model_leave 48 = .ok (.if_icmp .ne 7, 3) ∧ decode b_Model_leave 51 = .ok (.iconst 1, 1) ∧ decode b_Model_leave 52 = .ok (.goto 4, 3) ∧ decode b_Model_leave 55 = .ok (.iconst 0, 1) ∧ decode b_Model_leave 56 = .ok (.istore 7, 2) ∧ decode b_Model_leave 58 = .ok (.iinc 8 1, 3) ∧ decode b_Model_leave 61 = .ok (.goto (-38), 3) ∧ decode b_Model_leave 64 = .ok (.iload 7, 2) ∧ decode b_Model_leave 66 = .ok (.ifCond .ne 21, 3) ∧ decode b_Model_leave 69 = .ok (.aload_n 0, 1) ∧ decode b_Model_leave 70 = .ok (.getfield 24, 3) ∧ decode b_Model_leave 73 = .ok (.iload 5, 2) ∧ decode b_Model_leave 75 = .ok (.aload_n 0, 1) ∧ decode b_Model_leave 76 = .ok (.iload_n 1, 1) ∧ decode b_Model_leave 77 = .ok (.iload 6, 2) ∧ decode b_Model_leave 79 = .ok (.invokevirtual 98, 3) ∧ decode b_Model_leave 82 = .ok (.i2s, 1) ∧ decode b_Model_leave 83 = .ok (.sastore, 1) ∧ decode b_Model_leave 84 = .ok (.iinc 5 1, 3) ∧ decode b_Model_leave 87 = .ok (.iinc 6 1, 3) ∧ decode b_Model_leave 90 = .ok (.goto (-84), 3) ∧ decode b_Model_leave 93 = .ok (.aload_n 0, 1) ∧ decode b_Model_leave 94 = .ok (.getfield 17, 3) ∧ decode b_Model_leave 97 = .ok (.iload_n 1, 1) ∧ decode b_Model_leave 98 = .ok (.iload 5, 2) ∧ decode b_Model_leave 100 = .ok (.iastore, 1) ∧ decode b_Model_leave 101 = .ok (.iconst 0, 1) ∧ decode b_Model_leave 102 = .ok (.istore 6, 2) ∧ decode b_Model_leave 104 = .ok (.iload 6, 2) ∧ decode b_Model_leave 106 = .ok (.iload 5, 2) ∧ decode b_Model_leave 108 = .ok (.if_icmp .ge 29, 3) ∧ decode b_Model_leave 111 = .ok (.aload_n 0, 1) ∧ decode b_Model_leave 112 = .ok (.getfield 13, 3) ∧ decode b_Model_leave 115 = .ok (.sipush 200, 3) ∧ decode b_Model_leave 118 = .ok (.iload_n 1, 1) ∧ decode b_Model_leave 119 = .ok (.imul, 1) ∧ decode b_Model_leave 120 = .ok (.iload 6, 2) ∧ decode b_Model_leave 122 = .ok (.iadd, 1) ∧ decode b_Model_leave 123 = .ok (.aload_n 0, 1) ∧ decode b_Model_leave 124 = .ok (.getfield 24, 3) ∧ decode b_Model_leave 127 = .ok (.iload 6, 2) ∧ decode b_Model_leave 129 = .ok (.saload, 1) ∧ decode b_Model_leave 130 = .ok (.sastore, 1) ∧ decode b_Model_leave 131 = .ok (.iinc 6 1, 3) ∧ decode b_Model_leave 134 = .ok (.goto (-30), 3) ∧ decode b_Model_leave 137 = .ok (.return_, 1) := ⟨by decide +kernel, by decide +kernel, by decide +kernel, by decide +kernel, by decide +kernel, by decide +kernel, by decide +kernel, by decide +kernel, by decide +kernel, by decide +kernel, by decide +kernel, by decide +kernel, by decide +kernel, by decide +kernel, by decide +kernel, by decide +kernel, by decide +kernel, by decide +kernel, by decide +kernel, by decide +kernel, by decide +kernel, by decide +kernel, by decide +kernel, by decide +kernel, by decide +kernel, by decide +kernel, by decide +kernel, by decide +kernel, by decide +kernel, by decide +kernel, by decide +kernel, by decide +kernel, by decide +kernel, by decide +kernel, by decide +kernel, by decide +kernel, by decide +kernel, by decide +kernel, by decide +kernel, by decide +kernel, by decide +kernel, by decide +kernel, by decide +kernel, by decide +kernel, by decide +kernel, by decide +kernel, by decide +kernel, by decide +kernel, by decide +kernel, by decide +kernel, by decide +kernel, by decide +kernel, by decide +kernel, by decide +kernel, by decide +kernel, by decide +kernel, by decide +kernel, by decide +kernel, by decide +kernel, by decide +kernel, by decide +kernel, by decide +kernel, by decide +kernel, by decide +kernel, by decide +kernel, by decide +kernel, by decide +kernel, by decide +kernel, by decide +kernel, by decide +kernel, by decide +kernel, by decide +kernel, by decide +kernel⟩
theorem v_Model_leave : Cond.instanceMethod y_Model_leave ∈ nm_Ts ∧ Cond.selects y_Model_leave.cls y_Model_leave y_Model_leave ∈ nm_Ts ∧ Cond.initialized y_Model_leave.cls ∈ nm_Ts ∧ Cond.code y_Model_leave b_Model_leave 9 none ∈ nm_Ts ∧ mz_cl1 y_Model_leave 4 := ⟨nm_t5 11 rfl rfl, nm_s 30 rfl rfl, nm_t1 12 rfl rfl, nm_t5 12 rfl rfl, by decide +kernel⟩
def y_Model_reproduce : MethodName := ⟨"CardOfficeModel", "reproduce", "(III)I"⟩
abbrev b_Model_reproduce : ByteArray := prog_14_method_36_code
def r_Model_reproduce (c s : Nat) : Room := { frames := 3, cells := c, slots := s, locals := 71 }
theorem d_Model_reproduce : decode b_Model_reproduce 0 = .ok (.aload_n 0, 1) ∧ decode b_Model_reproduce 1 = .ok (.iload_n 1, 1) ∧ decode b_Model_reproduce 2 = .ok (.invokestatic 82, 3) ∧ decode b_Model_reproduce 5 = .ok (.ifCond .eq 26, 3) ∧ decode b_Model_reproduce 8 = .ok (.iload_n 2, 1) ∧ decode b_Model_reproduce 9 = .ok (.invokestatic 65, 3) ∧ decode b_Model_reproduce 12 = .ok (.ifCond .eq 19, 3) ∧ decode b_Model_reproduce 15 = .ok (.iload_n 3, 1) ∧ decode b_Model_reproduce 16 = .ok (.invokestatic 65, 3) ∧ decode b_Model_reproduce 19 = .ok (.ifCond .eq 12, 3) ∧ decode b_Model_reproduce 22 = .ok (.iload_n 2, 1) ∧ decode b_Model_reproduce 23 = .ok (.iload_n 3, 1) ∧ decode b_Model_reproduce 24 = .ok (.if_icmp .eq 7, 3) ∧ decode b_Model_reproduce 27 = .ok (.iconst 0, 1) ∧ decode b_Model_reproduce 28 = .ok (.goto 4, 3) ∧ decode b_Model_reproduce 31 = .ok (.iconst 1, 1) ∧ decode b_Model_reproduce 32 = .ok (.putfield 52, 3) ∧ decode b_Model_reproduce 35 = .ok (.aload_n 0, 1) ∧ decode b_Model_reproduce 36 = .ok (.getfield 52, 3) ∧ decode b_Model_reproduce 39 = .ok (.ifCond .le 5, 3) ∧ decode b_Model_reproduce 42 = .ok (.iconst 0, 1) ∧ decode b_Model_reproduce 43 = .ok (.ireturn, 1) ∧ decode b_Model_reproduce 44 = .ok (.iconst 0, 1) ∧ decode b_Model_reproduce 45 = .ok (.istore 4, 2) ∧ decode b_Model_reproduce 47 = .ok (.iload 4, 2) ∧ decode b_Model_reproduce 49 = .ok (.aload_n 0, 1) ∧ decode b_Model_reproduce 50 = .ok (.getfield 17, 3) ∧ decode b_Model_reproduce 53 = .ok (.iload_n 2, 1) ∧ decode b_Model_reproduce 54 = .ok (.iaload, 1) ∧ decode b_Model_reproduce 55 = .ok (.if_icmp .ge 162, 3) ∧ decode b_Model_reproduce 58 = .ok (.iconst 0, 1) ∧ decode b_Model_reproduce 59 = .ok (.istore 5, 2) ∧ decode b_Model_reproduce 61 = .ok (.iconst 0, 1) ∧ decode b_Model_reproduce 62 = .ok (.istore 6, 2) ∧ decode b_Model_reproduce 64 = .ok (.iload 6, 2) ∧ decode b_Model_reproduce 66 = .ok (.bipush 16, 2) ∧ decode b_Model_reproduce 68 = .ok (.if_icmp .ge 40, 3) ∧ decode b_Model_reproduce 71 = .ok (.iload 5, 2) ∧ decode b_Model_reproduce 73 = .ok (.ifCond .ne 22, 3) ∧ decode b_Model_reproduce 76 = .ok (.aload_n 0, 1) ∧ decode b_Model_reproduce 77 = .ok (.iload_n 1, 1) ∧ decode b_Model_reproduce 78 = .ok (.iload 6, 2) ∧ decode b_Model_reproduce 80 = .ok (.aload_n 0, 1) ∧ decode b_Model_reproduce 81 = .ok (.iload_n 2, 1) ∧ decode b_Model_reproduce 82 = .ok (.iload 4, 2) ∧ decode b_Model_reproduce 84 = .ok (.invokevirtual 98, 3) ∧ decode b_Model_reproduce 87 = .ok (.invokevirtual 151, 3) ∧ decode b_Model_reproduce 90 = .ok (.bipush (-2), 2) ∧ decode b_Model_reproduce 92 = .ok (.if_icmp .ne 7, 3) ∧ decode b_Model_reproduce 95 = .ok (.iconst 1, 1) ∧ decode b_Model_reproduce 96 = .ok (.goto 4, 3) ∧ decode b_Model_reproduce 99 = .ok (.iconst 0, 1) ∧ decode b_Model_reproduce 100 = .ok (.istore 5, 2) ∧ decode b_Model_reproduce 102 = .ok (.iinc 6 1, 3) ∧ decode b_Model_reproduce 105 = .ok (.goto (-41), 3) ∧ decode b_Model_reproduce 108 = .ok (.iload 5, 2) ∧ decode b_Model_reproduce 110 = .ok (.ifCond .ne 13, 3) ∧ decode b_Model_reproduce 113 = .ok (.aload_n 0, 1) ∧ decode b_Model_reproduce 114 = .ok (.getfield 62, 3) ∧ decode b_Model_reproduce 117 = .ok (.sipush 200, 3) ∧ decode b_Model_reproduce 120 = .ok (.if_icmp .ne 20, 3) ∧ decode b_Model_reproduce 123 = .ok (.aload_n 0, 1) ∧ decode b_Model_reproduce 124 = .ok (.iload 5, 2) ∧ decode b_Model_reproduce 126 = .ok (.ifCond .eq 7, 3) ∧ decode b_Model_reproduce 129 = .ok (.iconst 2, 1) ∧ decode b_Model_reproduce 130 = .ok (.goto 4, 3) ∧ decode b_Model_reproduce 133 = .ok (.iconst 4, 1) ∧ decode b_Model_reproduce 134 = .ok (.iload 4, 2) ∧ decode b_Model_reproduce 136 = .ok (.invokevirtual 155, 3) ∧ decode b_Model_reproduce 139 = .ok (.ireturn, 1) ∧ decode b_Model_reproduce 140 = .ok (.aload_n 0, 1) ∧ decode b_Model_reproduce 141 = .ok (.invokevirtual 74, 3) ∧ decode b_Model_reproduce 144 = .ok (.istore 6, 2) ∧ decode b_Model_reproduce 146 = .ok (.iconst 0, 1) ∧ decode b_Model_reproduce 147 = .ok (.istore 7, 2) ∧ decode b_Model_reproduce 149 = .ok (.iload 7, 2) ∧ decode b_Model_reproduce 151 = .ok (.bipush 16, 2) ∧ decode b_Model_reproduce 153 = .ok (.if_icmp .ge 51, 3) ∧ decode b_Model_reproduce 156 = .ok (.aload_n 0, 1) ∧ decode b_Model_reproduce 157 = .ok (.iload_n 1, 1) ∧ decode b_Model_reproduce 158 = .ok (.iload 7, 2) ∧ decode b_Model_reproduce 160 = .ok (.aload_n 0, 1) ∧ decode b_Model_reproduce 161 = .ok (.iload_n 2, 1) ∧ decode b_Model_reproduce 162 = .ok (.iload 4, 2) ∧ decode b_Model_reproduce 164 = .ok (.invokevirtual 98, 3) ∧ decode b_Model_reproduce 167 = .ok (.invokevirtual 151, 3) ∧ decode b_Model_reproduce 170 = .ok (.istore 8, 2) ∧ decode b_Model_reproduce 172 = .ok (.aload_n 0, 1) ∧ decode b_Model_reproduce 173 = .ok (.getfield 7, 3) ∧ decode b_Model_reproduce 176 = .ok (.bipush 16, 2) ∧ decode b_Model_reproduce 178 = .ok (.iload 6, 2) ∧ decode b_Model_reproduce 180 = .ok (.imul, 1) ∧ decode b_Model_reproduce 181 = .ok (.iload 7, 2) ∧ decode b_Model_reproduce 183 = .ok (.iadd, 1) ∧ decode b_Model_reproduce 184 = .ok (.iload 8, 2) ∧ decode b_Model_reproduce 186 = .ok (.ifCond .ge 8, 3) ∧ decode b_Model_reproduce 189 = .ok (.bipush 32, 2) ∧ decode b_Model_reproduce 191 = .ok (.goto 5, 3) ∧ decode b_Model_reproduce 194 = .ok (.iload 8, 2) ∧ decode b_Model_reproduce 196 = .ok (.i2b, 1) ∧ decode b_Model_reproduce 197 = .ok (.bastore, 1) ∧ decode b_Model_reproduce 198 = .ok (.iinc 7 1, 3) ∧ decode b_Model_reproduce 201 = .ok (.goto (-52), 3) ∧ decode b_Model_reproduce 204 = .ok (.aload_n 0, 1) ∧ decode b_Model_reproduce 205 = .ok (.iload_n 3, 1) ∧ decode b_Model_reproduce 206 = .ok (.iload 6, 2) ∧ decode b_Model_reproduce 208 = .ok (.invokevirtual 78, 3) ∧ decode b_Model_reproduce 211 = .ok (.iinc 4 1, 3) ∧ decode b_Model_reproduce 214 = .ok (.goto (-167), 3) ∧ decode b_Model_reproduce 217 = .ok (.aload_n 0, 1) ∧ decode b_Model_reproduce 218 = .ok (.iconst 0, 1) ∧ decode b_Model_reproduce 219 = .ok (.iconst (-1), 1) ∧ decode b_Model_reproduce 220 = .ok (.invokevirtual 155, 3) ∧ decode b_Model_reproduce 223 = .ok (.pop, 1) ∧ decode b_Model_reproduce 224 = .ok (.aload_n 0, 1) ∧ decode b_Model_reproduce 225 = .ok (.getfield 17, 3) ∧ decode b_Model_reproduce 228 = .ok (.iload_n 2, 1) ∧ decode b_Model_reproduce 229 = .ok (.iaload, 1) ∧ decode b_Model_reproduce 230 = .ok (.ireturn, 1) := ⟨by decide +kernel, by decide +kernel, by decide +kernel, by decide +kernel, by decide +kernel, by decide +kernel, by decide +kernel, by decide +kernel, by decide +kernel, by decide +kernel, by decide +kernel, by decide +kernel, by decide +kernel, by decide +kernel, by decide +kernel, by decide +kernel, by decide +kernel, by decide +kernel, by decide +kernel, by decide +kernel, by decide +kernel, by decide +kernel, by decide +kernel, by decide +kernel, by decide +kernel, by decide +kernel, by decide +kernel, by decide +kernel, by decide +kernel, by decide +kernel, by decide +kernel, by decide +kernel, by decide +kernel, by decide +kernel, by decide +kernel, by decide +kernel, by decide +kernel, by decide +kernel, by decide +kernel, by decide +kernel, by decide +kernel, by decide +kernel, by decide +kernel, by decide +kernel, by decide +kernel, by decide +kernel, by decide +kernel, by decide +kernel, by decide +kernel, by decide +kernel, by decide +kernel, by decide +kernel, by decide +kernel, by decide +kernel, by decide +kernel, by decide +kernel, by decide +kernel, by decide +kernel, by decide +kernel, by decide +kernel, by decide +kernel, by decide +kernel, by decide +kernel, by decide +kernel, by decide +kernel, by decide +kernel, by decide +kernel, by decide +kernel, by decide +kernel, by decide +kernel, by decide +kernel, by decide +kernel, by decide +kernel, by decide +kernel, by decide +kernel, by decide +kernel, by decide +kernel, by decide +kernel, by decide +kernel, by decide +kernel, by decide +kernel, by decide +kernel, by decide +kernel, by decide +kernel, by decide +kernel, by decide +kernel, by decide +kernel, by decide +kernel, by decide +kernel, by decide +kernel, by decide +kernel, by decide +kernel, by decide +kernel, by decide +kernel, by decide +kernel, by decide +kernel, by decide +kernel, by decide +kernel, by decide +kernel, by decide +kernel, by decide +kernel, by decide +kernel, by decide +kernel, by decide +kernel, by decide +kernel, by decide +kernel, by decide +kernel, by decide +kernel, by decide +kernel, by decide +kernel, by decide +kernel, by decide +kernel, by decide +kernel, by decide +kernel, by decide +kernel, by decide +kernel, by decide +kernel, by decide +kernel, by decide +kernel⟩
theorem v_Model_reproduce : Cond.instanceMethod y_Model_reproduce ∈ nm_Ts ∧ Cond.selects y_Model_reproduce.cls y_Model_reproduce y_Model_reproduce ∈ nm_Ts ∧ Cond.initialized y_Model_reproduce.cls ∈ nm_Ts ∧ Cond.code y_Model_reproduce b_Model_reproduce 9 (some .int) ∈ nm_Ts ∧ mz_cl1 y_Model_reproduce 3 := ⟨nm_t5 14 rfl rfl, nm_t5 15 rfl rfl, nm_t1 12 rfl rfl, nm_t5 16 rfl rfl, by decide +kernel⟩
def y_Model_arrives : MethodName := ⟨"CardOfficeModel", "arrives", "(III)I"⟩
abbrev b_Model_arrives : ByteArray := prog_14_method_22_code
def r_Model_arrives (c s : Nat) : Room := { frames := 2, cells := c, slots := s, locals := 45 }
theorem d_Model_arrives : decode b_Model_arrives 0 = .ok (.iconst (-1), 1) ∧ decode b_Model_arrives 1 = .ok (.istore 4, 2) ∧ decode b_Model_arrives 3 = .ok (.bipush 40, 2) ∧ decode b_Model_arrives 5 = .ok (.iload_n 1, 1) ∧ decode b_Model_arrives 6 = .ok (.imul, 1) ∧ decode b_Model_arrives 7 = .ok (.istore 5, 2) ∧ decode b_Model_arrives 9 = .ok (.iload 5, 2) ∧ decode b_Model_arrives 11 = .ok (.bipush 40, 2) ∧ decode b_Model_arrives 13 = .ok (.iload_n 1, 1) ∧ decode b_Model_arrives 14 = .ok (.imul, 1) ∧ decode b_Model_arrives 15 = .ok (.aload_n 0, 1) ∧ decode b_Model_arrives 16 = .ok (.getfield 33, 3) ∧ decode b_Model_arrives 19 = .ok (.iload_n 1, 1) ∧ decode b_Model_arrives 20 = .ok (.iaload, 1) ∧ decode b_Model_arrives 21 = .ok (.iadd, 1) ∧ decode b_Model_arrives 22 = .ok (.if_icmp .ge 65, 3) ∧ decode b_Model_arrives 25 = .ok (.aload_n 0, 1) ∧ decode b_Model_arrives 26 = .ok (.getfield 30, 3) ∧ decode b_Model_arrives 29 = .ok (.iload 5, 2) ∧ decode b_Model_arrives 31 = .ok (.baload, 1) ∧ decode b_Model_arrives 32 = .ok (.iload_n 2, 1) ∧ decode b_Model_arrives 33 = .ok (.if_icmp .ne 13, 3) ∧ decode b_Model_arrives 36 = .ok (.aload_n 0, 1) ∧ decode b_Model_arrives 37 = .ok (.iload 5, 2) ∧ decode b_Model_arrives 39 = .ok (.iload_n 3, 1) ∧ decode b_Model_arrives 40 = .ok (.invokevirtual 95, 3) ∧ decode b_Model_arrives 43 = .ok (.goto 4, 3) ∧ decode b_Model_arrives 46 = .ok (.iconst (-1), 1) ∧ decode b_Model_arrives 47 = .ok (.istore 6, 2) ∧ decode b_Model_arrives 49 = .ok (.iload 6, 2) ∧ decode b_Model_arrives 51 = .ok (.ifCond .lt 10, 3) ∧ decode b_Model_arrives 54 = .ok (.iload 6, 2) ∧ decode b_Model_arrives 56 = .ok (.iload 4, 2) ∧ decode b_Model_arrives 58 = .ok (.if_icmp .ne 8, 3) ∧ decode b_Model_arrives 61 = .ok (.iload 4, 2) ∧ decode b_Model_arrives 63 = .ok (.goto 16, 3) ∧ decode b_Model_arrives 66 = .ok (.iload 4, 2) ∧ decode b_Model_arrives 68 = .ok (.iconst (-1), 1) ∧ decode b_Model_arrives 69 = .ok (.if_icmp .ne 8, 3) ∧ decode b_Model_arrives 72 = .ok (.iload 6, 2) ∧ decode b_Model_arrives 74 = .ok (.goto 5, 3) ∧ decode b_Model_arrives 77 = .ok (.bipush (-2), 2) ∧ decode b_Model_arrives 79 = .ok (.istore 4, 2) ∧ decode b_Model_arrives 81 = .ok (.iinc 5 1, 3) ∧ decode b_Model_arrives 84 = .ok (.goto (-75), 3) ∧ decode b_Model_arrives 87 = .ok (.iload 4, 2) ∧ decode b_Model_arrives 89 = .ok (.ireturn, 1) := ⟨by decide +kernel, by decide +kernel, by decide +kernel, by decide +kernel, by decide +kernel, by decide +kernel, by decide +kernel, by decide +kernel, by decide +kernel, by decide +kernel, by decide +kernel, by decide +kernel, by decide +kernel, by decide +kernel, by decide +kernel, by decide +kernel, by decide +kernel, by decide +kernel, by decide +kernel, by decide +kernel, by decide +kernel, by decide +kernel, by decide +kernel, by decide +kernel, by decide +kernel, by decide +kernel, by decide +kernel, by decide +kernel, by decide +kernel, by decide +kernel, by decide +kernel, by decide +kernel, by decide +kernel, by decide +kernel, by decide +kernel, by decide +kernel, by decide +kernel, by decide +kernel, by decide +kernel, by decide +kernel, by decide +kernel, by decide +kernel, by decide +kernel, by decide +kernel, by decide +kernel, by decide +kernel, by decide +kernel⟩
theorem v_Model_arrives : Cond.instanceMethod y_Model_arrives ∈ nm_Ts ∧ Cond.selects y_Model_arrives.cls y_Model_arrives y_Model_arrives ∈ nm_Ts ∧ Cond.initialized y_Model_arrives.cls ∈ nm_Ts ∧ Cond.code y_Model_arrives b_Model_arrives 7 (some .int) ∈ nm_Ts ∧ mz_cl1 y_Model_arrives 3 := ⟨nm_t5 19 rfl rfl, nm_s 31 rfl rfl, nm_t1 12 rfl rfl, nm_t5 20 rfl rfl, by decide +kernel⟩
def y_Model_brings : MethodName := ⟨"CardOfficeModel", "brings", "(II)I"⟩
abbrev b_Model_brings : ByteArray := prog_14_method_21_code
def r_Model_brings (c s : Nat) : Room := { frames := 1, cells := c, slots := s, locals := 22 }
theorem d_Model_brings : decode b_Model_brings 0 = .ok (.aload_n 0, 1) ∧ decode b_Model_brings 1 = .ok (.getfield 27, 3) ∧ decode b_Model_brings 4 = .ok (.iload_n 1, 1) ∧ decode b_Model_brings 5 = .ok (.baload, 1) ∧ decode b_Model_brings 6 = .ok (.istore_n 3, 1) ∧ decode b_Model_brings 7 = .ok (.iload_n 3, 1) ∧ decode b_Model_brings 8 = .ok (.bipush 16, 2) ∧ decode b_Model_brings 10 = .ok (.if_icmp .ge 20, 3) ∧ decode b_Model_brings 13 = .ok (.iload_n 2, 1) ∧ decode b_Model_brings 14 = .ok (.ifCond .ge 7, 3) ∧ decode b_Model_brings 17 = .ok (.iconst (-1), 1) ∧ decode b_Model_brings 18 = .ok (.goto 26, 3) ∧ decode b_Model_brings 21 = .ok (.aload_n 0, 1) ∧ decode b_Model_brings 22 = .ok (.iload_n 2, 1) ∧ decode b_Model_brings 23 = .ok (.iload_n 3, 1) ∧ decode b_Model_brings 24 = .ok (.invokevirtual 91, 3) ∧ decode b_Model_brings 27 = .ok (.goto 17, 3) ∧ decode b_Model_brings 30 = .ok (.iload_n 3, 1) ∧ decode b_Model_brings 31 = .ok (.bipush 26, 2) ∧ decode b_Model_brings 33 = .ok (.if_icmp .ge 10, 3) ∧ decode b_Model_brings 36 = .ok (.bipush 32, 2) ∧ decode b_Model_brings 38 = .ok (.iload_n 3, 1) ∧ decode b_Model_brings 39 = .ok (.iadd, 1) ∧ decode b_Model_brings 40 = .ok (.goto 4, 3) ∧ decode b_Model_brings 43 = .ok (.iconst (-1), 1) ∧ decode b_Model_brings 44 = .ok (.ireturn, 1) := ⟨by decide +kernel, by decide +kernel, by decide +kernel, by decide +kernel, by decide +kernel, by decide +kernel, by decide +kernel, by decide +kernel, by decide +kernel, by decide +kernel, by decide +kernel, by decide +kernel, by decide +kernel, by decide +kernel, by decide +kernel, by decide +kernel, by decide +kernel, by decide +kernel, by decide +kernel, by decide +kernel, by decide +kernel, by decide +kernel, by decide +kernel, by decide +kernel, by decide +kernel, by decide +kernel⟩
theorem v_Model_brings : Cond.instanceMethod y_Model_brings ∈ nm_Ts ∧ Cond.selects y_Model_brings.cls y_Model_brings y_Model_brings ∈ nm_Ts ∧ Cond.initialized y_Model_brings.cls ∈ nm_Ts ∧ Cond.code y_Model_brings b_Model_brings 4 (some .int) ∈ nm_Ts ∧ mz_cl1 y_Model_brings 2 := ⟨nm_t5 23 rfl rfl, nm_s 32 rfl rfl, nm_t1 12 rfl rfl, nm_t5 24 rfl rfl, by decide +kernel⟩
def y_Model_fails : MethodName := ⟨"CardOfficeModel", "fails", "(II)I"⟩
abbrev b_Model_fails : ByteArray := prog_14_method_35_code
def r_Model_fails (c s : Nat) : Room := { frames := 0, cells := c, slots := s, locals := 0 }
theorem d_Model_fails : decode b_Model_fails 0 = .ok (.aload_n 0, 1) ∧ decode b_Model_fails 1 = .ok (.iload_n 1, 1) ∧ decode b_Model_fails 2 = .ok (.putfield 148, 3) ∧ decode b_Model_fails 5 = .ok (.aload_n 0, 1) ∧ decode b_Model_fails 6 = .ok (.iload_n 2, 1) ∧ decode b_Model_fails 7 = .ok (.putfield 48, 3) ∧ decode b_Model_fails 10 = .ok (.iload_n 2, 1) ∧ decode b_Model_fails 11 = .ok (.ireturn, 1) := ⟨by decide +kernel, by decide +kernel, by decide +kernel, by decide +kernel, by decide +kernel, by decide +kernel, by decide +kernel, by decide +kernel⟩
theorem v_Model_fails : Cond.instanceMethod y_Model_fails ∈ nm_Ts ∧ Cond.selects y_Model_fails.cls y_Model_fails y_Model_fails ∈ nm_Ts ∧ Cond.initialized y_Model_fails.cls ∈ nm_Ts ∧ Cond.code y_Model_fails b_Model_fails 3 (some .int) ∈ nm_Ts ∧ mz_cl1 y_Model_fails 2 := ⟨nm_t5 27 rfl rfl, nm_s 33 rfl rfl, nm_t1 12 rfl rfl, nm_t5 28 rfl rfl, by decide +kernel⟩
def y_Model_gang : MethodName := ⟨"CardOfficeModel", "gang", "(III)I"⟩
abbrev b_Model_gang : ByteArray := prog_14_method_37_code
def r_Model_gang (c s : Nat) : Room := { frames := 4, cells := c, slots := s, locals := 99 }
theorem d_Model_gang : decode b_Model_gang 0 = .ok (.aload_n 0, 1) ∧ decode b_Model_gang 1 = .ok (.iload_n 1, 1) ∧ decode b_Model_gang 2 = .ok (.invokestatic 82, 3) ∧ decode b_Model_gang 5 = .ok (.ifCond .eq 21, 3) ∧ decode b_Model_gang 8 = .ok (.iload_n 2, 1) ∧ decode b_Model_gang 9 = .ok (.invokestatic 65, 3) ∧ decode b_Model_gang 12 = .ok (.ifCond .eq 14, 3) ∧ decode b_Model_gang 15 = .ok (.iload_n 3, 1) ∧ decode b_Model_gang 16 = .ok (.invokestatic 108, 3) ∧ decode b_Model_gang 19 = .ok (.ifCond .eq 7, 3) ∧ decode b_Model_gang 22 = .ok (.iconst 0, 1) ∧ decode b_Model_gang 23 = .ok (.goto 4, 3) ∧ decode b_Model_gang 26 = .ok (.iconst 1, 1) ∧ decode b_Model_gang 27 = .ok (.putfield 52, 3) ∧ decode b_Model_gang 30 = .ok (.aload_n 0, 1) ∧ decode b_Model_gang 31 = .ok (.getfield 52, 3) ∧ decode b_Model_gang 34 = .ok (.ifCond .le 5, 3) ∧ decode b_Model_gang 37 = .ok (.iconst 0, 1) ∧ decode b_Model_gang 38 = .ok (.ireturn, 1) ∧ decode b_Model_gang 39 = .ok (.iconst (-1), 1) ∧ decode b_Model_gang 40 = .ok (.istore 4, 2) ∧ decode b_Model_gang 42 = .ok (.iconst 0, 1) ∧ decode b_Model_gang 43 = .ok (.istore 5, 2) ∧ decode b_Model_gang 45 = .ok (.iload 5, 2) ∧ decode b_Model_gang 47 = .ok (.aload_n 0, 1) ∧ decode b_Model_gang 48 = .ok (.getfield 17, 3) ∧ decode b_Model_gang 51 = .ok (.iload_n 2, 1) ∧ decode b_Model_gang 52 = .ok (.iaload, 1) ∧ decode b_Model_gang 53 = .ok (.if_icmp .ge 133, 3) ∧ decode b_Model_gang 56 = .ok (.aload_n 0, 1) ∧ decode b_Model_gang 57 = .ok (.iload_n 2, 1) ∧ decode b_Model_gang 58 = .ok (.iload 5, 2) ∧ decode b_Model_gang 60 = .ok (.invokevirtual 98, 3) ∧ decode b_Model_gang 63 = .ok (.istore 6, 2) ∧ decode b_Model_gang 65 = .ok (.aload_n 0, 1) ∧ decode b_Model_gang 66 = .ok (.iload 6, 2) ∧ decode b_Model_gang 68 = .ok (.iload_n 3, 1) ∧ decode b_Model_gang 69 = .ok (.invokevirtual 91, 3) ∧ decode b_Model_gang 72 = .ok (.invokestatic 55, 3) ∧ decode b_Model_gang 75 = .ok (.iconst 2, 1) ∧ decode b_Model_gang 76 = .ok (.if_icmp .ne 10, 3) ∧ decode b_Model_gang 79 = .ok (.iload 6, 2) ∧ decode b_Model_gang 81 = .ok (.istore 4, 2) ∧ decode b_Model_gang 83 = .ok (.goto 97, 3) ∧ decode b_Model_gang 86 = .ok (.iload 4, 2) ∧ decode b_Model_gang 88 = .ok (.ifCond .lt 92, 3) ∧ decode b_Model_gang 91 = .ok (.aload_n 0, 1) ∧ decode b_Model_gang 92 = .ok (.iload_n 1, 1) ∧ decode b_Model_gang 93 = .ok (.iload 4, 2) ∧ decode b_Model_gang 95 = .ok (.iload 6, 2) ∧ decode b_Model_gang 97 = .ok (.invokevirtual 158, 3) ∧ decode b_Model_gang 100 = .ok (.istore 7, 2) ∧ decode b_Model_gang 102 = .ok (.iload 7, 2) ∧ decode b_Model_gang 104 = .ok (.ifCond .le 12, 3) ∧ decode b_Model_gang 107 = .ok (.aload_n 0, 1) ∧ decode b_Model_gang 108 = .ok (.iload 7, 2) ∧ decode b_Model_gang 110 = .ok (.iload 5, 2) ∧ decode b_Model_gang 112 = .ok (.invokevirtual 155, 3) ∧ decode b_Model_gang 115 = .ok (.ireturn, 1) ∧ decode b_Model_gang 116 = .ok (.iconst 0, 1) ∧ decode b_Model_gang 117 = .ok (.istore 8, 2) ∧ decode b_Model_gang 119 = .ok (.iload 8, 2) ∧ decode b_Model_gang 121 = .ok (.bipush 16, 2) ∧ decode b_Model_gang 123 = .ok (.if_icmp .ge 57, 3) ∧ decode b_Model_gang 126 = .ok (.aload_n 0, 1) ∧ decode b_Model_gang 127 = .ok (.iload_n 1, 1) ∧ decode b_Model_gang 128 = .ok (.iload 8, 2) ∧ decode b_Model_gang 130 = .ok (.iload 4, 2) ∧ decode b_Model_gang 132 = .ok (.invokevirtual 151, 3) ∧ decode b_Model_gang 135 = .ok (.istore 9, 2) ∧ decode b_Model_gang 137 = .ok (.aload_n 0, 1) ∧ decode b_Model_gang 138 = .ok (.getfield 7, 3) ∧ decode b_Model_gang 141 = .ok (.bipush 16, 2) ∧ decode b_Model_gang 143 = .ok (.iload 6, 2) ∧ decode b_Model_gang 145 = .ok (.imul, 1) ∧ decode b_Model_gang 146 = .ok (.iload 8, 2) ∧ decode b_Model_gang 148 = .ok (.iadd, 1) ∧ decode b_Model_gang 149 = .ok (.iload 9, 2) ∧ decode b_Model_gang 151 = .ok (.ifCond .ge 19, 3) ∧ decode b_Model_gang 154 = .ok (.aload_n 0, 1) ∧ decode b_Model_gang 155 = .ok (.getfield 7, 3) ∧ decode b_Model_gang 158 = .ok (.bipush 16, 2) ∧ decode b_Model_gang 160 = .ok (.iload 6, 2) ∧ decode b_Model_gang 162 = .ok (.imul, 1) ∧ decode b_Model_gang 163 = .ok (.iload 8, 2) ∧ decode b_Model_gang 165 = .ok (.iadd, 1) ∧ decode b_Model_gang 166 = .ok (.baload, 1) ∧ decode b_Model_gang 167 = .ok (.goto 6, 3) ∧ decode b_Model_gang 170 = .ok (.iload 9, 2) ∧ decode b_Model_gang 172 = .ok (.i2b, 1) ∧ decode b_Model_gang 173 = .ok (.bastore, 1) ∧ decode b_Model_gang 174 = .ok (.iinc 8 1, 3) ∧ decode b_Model_gang 177 = .ok (.goto (-58), 3) ∧ decode b_Model_gang 180 = .ok (.iinc 5 1, 3) ∧ decode b_Model_gang 183 = .ok (.goto (-138), 3) ∧ decode b_Model_gang 186 = .ok (.aload_n 0, 1) ∧ decode b_Model_gang 187 = .ok (.iconst 0, 1) ∧ decode b_Model_gang 188 = .ok (.iconst (-1), 1) ∧ decode b_Model_gang 189 = .ok (.invokevirtual 155, 3) ∧ decode b_Model_gang 192 = .ok (.pop, 1) ∧ decode b_Model_gang 193 = .ok (.aload_n 0, 1) ∧ decode b_Model_gang 194 = .ok (.getfield 17, 3) ∧ decode b_Model_gang 197 = .ok (.iload_n 2, 1) ∧ decode b_Model_gang 198 = .ok (.iaload, 1) ∧ decode b_Model_gang 199 = .ok (.ireturn, 1) := ⟨by decide +kernel, by decide +kernel, by decide +kernel, by decide +kernel, by decide +kernel, by decide +kernel, by decide +kernel, by decide +kernel, by decide +kernel, by decide +kernel, by decide +kernel, by decide +kernel, by decide +kernel, by decide +kernel, by decide +kernel, by decide +kernel, by decide +kernel, by decide +kernel, by decide +kernel, by decide +kernel, by decide +kernel, by decide +kernel, by decide +kernel, by decide +kernel, by decide +kernel, by decide +kernel, by decide +kernel, by decide +kernel, by decide +kernel, by decide +kernel, by decide +kernel, by decide +kernel, by decide +kernel, by decide +kernel, by decide +kernel, by decide +kernel, by decide +kernel, by decide +kernel, by decide +kernel, by decide +kernel, by decide +kernel, by decide +kernel, by decide +kernel, by decide +kernel, by decide +kernel, by decide +kernel, by decide +kernel, by decide +kernel, by decide +kernel, by decide +kernel, by decide +kernel, by decide +kernel, by decide +kernel, by decide +kernel, by decide +kernel, by decide +kernel, by decide +kernel, by decide +kernel, by decide +kernel, by decide +kernel, by decide +kernel, by decide +kernel, by decide +kernel, by decide +kernel, by decide +kernel, by decide +kernel, by decide +kernel, by decide +kernel, by decide +kernel, by decide +kernel, by decide +kernel, by decide +kernel, by decide +kernel, by decide +kernel, by decide +kernel, by decide +kernel, by decide +kernel, by decide +kernel, by decide +kernel, by decide +kernel, by decide +kernel, by decide +kernel, by decide +kernel, by decide +kernel, by decide +kernel, by decide +kernel, by decide +kernel, by decide +kernel, by decide +kernel, by decide +kernel, by decide +kernel, by decide +kernel, by decide +kernel, by decide +kernel, by decide +kernel, by decide +kernel, by decide +kernel, by decide +kernel, by decide +kernel, by decide +kernel, by decide +kernel, by decide +kernel, by decide +kernel, by decide +kernel, by decide +kernel⟩
theorem v_Model_gang : Cond.instanceMethod y_Model_gang ∈ nm_Ts ∧ Cond.selects y_Model_gang.cls y_Model_gang y_Model_gang ∈ nm_Ts ∧ Cond.initialized y_Model_gang.cls ∈ nm_Ts ∧ Cond.code y_Model_gang b_Model_gang 10 (some .int) ∈ nm_Ts ∧ mz_cl1 y_Model_gang 3 := ⟨nm_t5 30 rfl rfl, nm_t5 31 rfl rfl, nm_t1 12 rfl rfl, nm_t5 32 rfl rfl, by decide +kernel⟩
def y_Model_faultOfGang : MethodName := ⟨"CardOfficeModel", "faultOfGang", "(III)I"⟩
abbrev b_Model_faultOfGang : ByteArray := prog_14_method_38_code
def r_Model_faultOfGang (c s : Nat) : Room := { frames := 3, cells := c, slots := s, locals := 71 }
theorem d_Model_faultOfGang : decode b_Model_faultOfGang 0 = .ok (.iconst 0, 1) ∧ decode b_Model_faultOfGang 1 = .ok (.istore 4, 2) ∧ decode b_Model_faultOfGang 3 = .ok (.iconst 0, 1) ∧ decode b_Model_faultOfGang 4 = .ok (.istore 5, 2) ∧ decode b_Model_faultOfGang 6 = .ok (.bipush 40, 2) ∧ decode b_Model_faultOfGang 8 = .ok (.iload_n 1, 1) ∧ decode b_Model_faultOfGang 9 = .ok (.imul, 1) ∧ decode b_Model_faultOfGang 10 = .ok (.istore 6, 2) ∧ decode b_Model_faultOfGang 12 = .ok (.iload 6, 2) ∧ decode b_Model_faultOfGang 14 = .ok (.bipush 40, 2) ∧ decode b_Model_faultOfGang 16 = .ok (.iload_n 1, 1) ∧ decode b_Model_faultOfGang 17 = .ok (.imul, 1) ∧ decode b_Model_faultOfGang 18 = .ok (.aload_n 0, 1) ∧ decode b_Model_faultOfGang 19 = .ok (.getfield 33, 3) ∧ decode b_Model_faultOfGang 22 = .ok (.iload_n 1, 1) ∧ decode b_Model_faultOfGang 23 = .ok (.iaload, 1) ∧ decode b_Model_faultOfGang 24 = .ok (.iadd, 1) ∧ decode b_Model_faultOfGang 25 = .ok (.if_icmp .ge 105, 3) ∧ decode b_Model_faultOfGang 28 = .ok (.aload_n 0, 1) ∧ decode b_Model_faultOfGang 29 = .ok (.iload 6, 2) ∧ decode b_Model_faultOfGang 31 = .ok (.iload_n 2, 1) ∧ decode b_Model_faultOfGang 32 = .ok (.invokevirtual 95, 3) ∧ decode b_Model_faultOfGang 35 = .ok (.istore 7, 2) ∧ decode b_Model_faultOfGang 37 = .ok (.aload_n 0, 1) ∧ decode b_Model_faultOfGang 38 = .ok (.getfield 30, 3) ∧ decode b_Model_faultOfGang 41 = .ok (.iload 6, 2) ∧ decode b_Model_faultOfGang 43 = .ok (.baload, 1) ∧ decode b_Model_faultOfGang 44 = .ok (.bipush 16, 2) ∧ decode b_Model_faultOfGang 46 = .ok (.if_icmp .ge 78, 3) ∧ decode b_Model_faultOfGang 49 = .ok (.iload 7, 2) ∧ decode b_Model_faultOfGang 51 = .ok (.ifCond .lt 73, 3) ∧ decode b_Model_faultOfGang 54 = .ok (.aload_n 0, 1) ∧ decode b_Model_faultOfGang 55 = .ok (.iload_n 3, 1) ∧ decode b_Model_faultOfGang 56 = .ok (.aload_n 0, 1) ∧ decode b_Model_faultOfGang 57 = .ok (.getfield 30, 3) ∧ decode b_Model_faultOfGang 60 = .ok (.iload 6, 2) ∧ decode b_Model_faultOfGang 62 = .ok (.baload, 1) ∧ decode b_Model_faultOfGang 63 = .ok (.invokevirtual 91, 3) ∧ decode b_Model_faultOfGang 66 = .ok (.istore 8, 2) ∧ decode b_Model_faultOfGang 68 = .ok (.iload 5, 2) ∧ decode b_Model_faultOfGang 70 = .ok (.ifCond .ne 17, 3) ∧ decode b_Model_faultOfGang 73 = .ok (.iload 8, 2) ∧ decode b_Model_faultOfGang 75 = .ok (.bipush 32, 2) ∧ decode b_Model_faultOfGang 77 = .ok (.if_icmp .eq 14, 3) ∧ decode b_Model_faultOfGang 80 = .ok (.iload 8, 2) ∧ decode b_Model_faultOfGang 82 = .ok (.iload 7, 2) ∧ decode b_Model_faultOfGang 84 = .ok (.if_icmp .eq 7, 3) ∧ decode b_Model_faultOfGang 87 = .ok (.iconst 1, 1) ∧ decode b_Model_faultOfGang 88 = .ok (.goto 4, 3) ∧ decode b_Model_faultOfGang 91 = .ok (.iconst 0, 1) ∧ decode b_Model_faultOfGang 92 = .ok (.istore 5, 2) ∧ decode b_Model_faultOfGang 94 = .ok (.iload 4, 2) ∧ decode b_Model_faultOfGang 96 = .ok (.ifCond .ne 21, 3) ∧ decode b_Model_faultOfGang 99 = .ok (.aload_n 0, 1) ∧ decode b_Model_faultOfGang 100 = .ok (.iload_n 1, 1) ∧ decode b_Model_faultOfGang 101 = .ok (.aload_n 0, 1) ∧ decode b_Model_faultOfGang 102 = .ok (.getfield 30, 3) ∧ decode b_Model_faultOfGang 105 = .ok (.iload 6, 2) ∧ decode b_Model_faultOfGang 107 = .ok (.baload, 1) ∧ decode b_Model_faultOfGang 108 = .ok (.iload_n 2, 1) ∧ decode b_Model_faultOfGang 109 = .ok (.invokevirtual 151, 3) ∧ decode b_Model_faultOfGang 112 = .ok (.bipush (-2), 2) ∧ decode b_Model_faultOfGang 114 = .ok (.if_icmp .ne 7, 3) ∧ decode b_Model_faultOfGang 117 = .ok (.iconst 1, 1) ∧ decode b_Model_faultOfGang 118 = .ok (.goto 4, 3) ∧ decode b_Model_faultOfGang 121 = .ok (.iconst 0, 1) ∧ decode b_Model_faultOfGang 122 = .ok (.istore 4, 2) ∧ decode b_Model_faultOfGang 124 = .ok (.iinc 6 1, 3) ∧ decode b_Model_faultOfGang 127 = .ok (.goto (-115), 3) ∧ decode b_Model_faultOfGang 130 = .ok (.iload 5, 2) ∧ decode b_Model_faultOfGang 132 = .ok (.ifCond .eq 7, 3) ∧ decode b_Model_faultOfGang 135 = .ok (.iconst 1, 1) ∧ decode b_Model_faultOfGang 136 = .ok (.goto 13, 3) ∧ decode b_Model_faultOfGang 139 = .ok (.iload 4, 2) ∧ decode b_Model_faultOfGang 141 = .ok (.ifCond .eq 7, 3) ∧ decode b_Model_faultOfGang 144 = .ok (.iconst 2, 1) ∧ decode b_Model_faultOfGang 145 = .ok (.goto 4, 3) ∧ decode b_Model_faultOfGang 148 = .ok (.iconst 0, 1) ∧ decode b_Model_faultOfGang 149 = .ok (.ireturn, 1) := ⟨by decide +kernel, by decide +kernel, by decide +kernel, by decide +kernel, by decide +kernel, by decide +kernel, by decide +kernel, by decide +kernel, by decide +kernel, by decide +kernel, by decide +kernel, by decide +kernel, by decide +kernel, by decide +kernel, by decide +kernel, by decide +kernel, by decide +kernel, by decide +kernel, by decide +kernel, by decide +kernel, by decide +kernel, by decide +kernel, by decide +kernel, by decide +kernel, by decide +kernel, by decide +kernel, by decide +kernel, by decide +kernel, by decide +kernel, by decide +kernel, by decide +kernel, by decide +kernel, by decide +kernel, by decide +kernel, by decide +kernel, by decide +kernel, by decide +kernel, by decide +kernel, by decide +kernel, by decide +kernel, by decide +kernel, by decide +kernel, by decide +kernel, by decide +kernel, by decide +kernel, by decide +kernel, by decide +kernel, by decide +kernel, by decide +kernel, by decide +kernel, by decide +kernel, by decide +kernel, by decide +kernel, by decide +kernel, by decide +kernel, by decide +kernel, by decide +kernel, by decide +kernel, by decide +kernel, by decide +kernel, by decide +kernel, by decide +kernel, by decide +kernel, by decide +kernel, by decide +kernel, by decide +kernel, by decide +kernel, by decide +kernel, by decide +kernel, by decide +kernel, by decide +kernel, by decide +kernel, by decide +kernel, by decide +kernel, by decide +kernel, by decide +kernel, by decide +kernel, by decide +kernel, by decide +kernel⟩
theorem v_Model_faultOfGang : Cond.instanceMethod y_Model_faultOfGang ∈ nm_Ts ∧ Cond.selects y_Model_faultOfGang.cls y_Model_faultOfGang y_Model_faultOfGang ∈ nm_Ts ∧ Cond.initialized y_Model_faultOfGang.cls ∈ nm_Ts ∧ Cond.code y_Model_faultOfGang b_Model_faultOfGang 9 (some .int) ∈ nm_Ts ∧ mz_cl1 y_Model_faultOfGang 3 := ⟨nm_t5 35 rfl rfl, nm_s 34 rfl rfl, nm_t1 12 rfl rfl, nm_t5 36 rfl rfl, by decide +kernel⟩
def y_Model_multiply : MethodName := ⟨"CardOfficeModel", "multiply", "(IIII)I"⟩
abbrev b_Model_multiply : ByteArray := prog_14_method_44_code
def r_Model_multiply (c s : Nat) : Room := { frames := 2, cells := c, slots := s, locals := 52 }
theorem d_Model_multiply : decode b_Model_multiply 0 = .ok (.iload_n 1, 1) ∧ decode b_Model_multiply 1 = .ok (.invokestatic 65, 3) ∧ decode b_Model_multiply 4 = .ok (.ifCond .eq 47, 3) ∧ decode b_Model_multiply 7 = .ok (.iload_n 2, 1) ∧ decode b_Model_multiply 8 = .ok (.invokestatic 163, 3) ∧ decode b_Model_multiply 11 = .ok (.ifCond .eq 40, 3) ∧ decode b_Model_multiply 14 = .ok (.iload_n 3, 1) ∧ decode b_Model_multiply 15 = .ok (.invokestatic 163, 3) ∧ decode b_Model_multiply 18 = .ok (.ifCond .eq 33, 3) ∧ decode b_Model_multiply 21 = .ok (.iload 4, 2) ∧ decode b_Model_multiply 23 = .ok (.invokestatic 163, 3) ∧ decode b_Model_multiply 26 = .ok (.ifCond .eq 25, 3) ∧ decode b_Model_multiply 29 = .ok (.iload 4, 2) ∧ decode b_Model_multiply 31 = .ok (.iload_n 2, 1) ∧ decode b_Model_multiply 32 = .ok (.invokestatic 166, 3) ∧ decode b_Model_multiply 35 = .ok (.ifCond .ne 16, 3) ∧ decode b_Model_multiply 38 = .ok (.iload 4, 2) ∧ decode b_Model_multiply 40 = .ok (.iload_n 3, 1) ∧ decode b_Model_multiply 41 = .ok (.invokestatic 166, 3) ∧ decode b_Model_multiply 44 = .ok (.ifCond .ne 7, 3) ∧ decode b_Model_multiply 47 = .ok (.iconst 1, 1) ∧ decode b_Model_multiply 48 = .ok (.goto 4, 3) ∧ decode b_Model_multiply 51 = .ok (.iconst 0, 1) ∧ decode b_Model_multiply 52 = .ok (.istore 5, 2) ∧ decode b_Model_multiply 54 = .ok (.aload_n 0, 1) ∧ decode b_Model_multiply 55 = .ok (.iload 5, 2) ∧ decode b_Model_multiply 57 = .ok (.ifCond .eq 7, 3) ∧ decode b_Model_multiply 60 = .ok (.iconst 0, 1) ∧ decode b_Model_multiply 61 = .ok (.goto 4, 3) ∧ decode b_Model_multiply 64 = .ok (.iconst 1, 1) ∧ decode b_Model_multiply 65 = .ok (.putfield 52, 3) ∧ decode b_Model_multiply 68 = .ok (.iload 5, 2) ∧ decode b_Model_multiply 70 = .ok (.ifCond .ne 5, 3) ∧ decode b_Model_multiply 73 = .ok (.iconst 0, 1) ∧ decode b_Model_multiply 74 = .ok (.ireturn, 1) ∧ decode b_Model_multiply 75 = .ok (.iconst 0, 1) ∧ decode b_Model_multiply 76 = .ok (.istore 6, 2) ∧ decode b_Model_multiply 78 = .ok (.iload 6, 2) ∧ decode b_Model_multiply 80 = .ok (.aload_n 0, 1) ∧ decode b_Model_multiply 81 = .ok (.getfield 17, 3) ∧ decode b_Model_multiply 84 = .ok (.iload_n 1, 1) ∧ decode b_Model_multiply 85 = .ok (.iaload, 1) ∧ decode b_Model_multiply 86 = .ok (.if_icmp .ge 142, 3) ∧ decode b_Model_multiply 89 = .ok (.aload_n 0, 1) ∧ decode b_Model_multiply 90 = .ok (.iload_n 1, 1) ∧ decode b_Model_multiply 91 = .ok (.iload 6, 2) ∧ decode b_Model_multiply 93 = .ok (.invokevirtual 98, 3) ∧ decode b_Model_multiply 96 = .ok (.istore 7, 2) ∧ decode b_Model_multiply 98 = .ok (.aload_n 0, 1) ∧ decode b_Model_multiply 99 = .ok (.iload 7, 2) ∧ decode b_Model_multiply 101 = .ok (.iload_n 2, 1) ∧ decode b_Model_multiply 102 = .ok (.invokevirtual 169, 3) ∧ decode b_Model_multiply 105 = .ok (.istore 8, 2) ∧ decode b_Model_multiply 107 = .ok (.aload_n 0, 1) ∧ decode b_Model_multiply 108 = .ok (.iload 7, 2) ∧ decode b_Model_multiply 110 = .ok (.iload_n 3, 1) ∧ decode b_Model_multiply 111 = .ok (.invokevirtual 169, 3) ∧ decode b_Model_multiply 114 = .ok (.istore 9, 2) ∧ decode b_Model_multiply 116 = .ok (.iload 8, 2) ∧ decode b_Model_multiply 118 = .ok (.ifCond .lt 8, 3) ∧ decode b_Model_multiply 121 = .ok (.iload 9, 2) ∧ decode b_Model_multiply 123 = .ok (.ifCond .ge 11, 3) ∧ decode b_Model_multiply 126 = .ok (.aload_n 0, 1) ∧ decode b_Model_multiply 127 = .ok (.iconst 1, 1) ∧ decode b_Model_multiply 128 = .ok (.iload 6, 2) ∧ decode b_Model_multiply 130 = .ok (.invokevirtual 155, 3) ∧ decode b_Model_multiply 133 = .ok (.ireturn, 1) ∧ decode b_Model_multiply 134 = .ok (.iload 8, 2) ∧ decode b_Model_multiply 136 = .ok (.i2l, 1) ∧ decode b_Model_multiply 137 = .ok (.iload 9, 2) ∧ decode b_Model_multiply 139 = .ok (.i2l, 1) ∧ decode b_Model_multiply 140 = .ok (.lmul, 1) ∧ decode b_Model_multiply 141 = .ok (.ldc2_w 172, 3) ∧ decode b_Model_multiply 144 = .ok (.ladd, 1) ∧ decode b_Model_multiply 145 = .ok (.ldc2_w 161, 3) ∧ decode b_Model_multiply 148 = .ok (.ldiv, 1) ∧ decode b_Model_multiply 149 = .ok (.lstore 10, 2) ∧ decode b_Model_multiply 151 = .ok (.lload 10, 2) ∧ decode b_Model_multiply 153 = .ok (.iconst 1, 1) ∧ decode b_Model_multiply 154 = .ok (.iload 4, 2) ∧ decode b_Model_multiply 156 = .ok (.bipush 16, 2) ∧ decode b_Model_multiply 158 = .ok (.idiv, 1) ∧ decode b_Model_multiply 159 = .ok (.iadd, 1) ∧ decode b_Model_multiply 160 = .ok (.invokestatic 174, 3) ∧ decode b_Model_multiply 163 = .ok (.lcmp, 1) ∧ decode b_Model_multiply 164 = .ok (.ifCond .lt 7, 3) ∧ decode b_Model_multiply 167 = .ok (.iconst 1, 1) ∧ decode b_Model_multiply 168 = .ok (.goto 4, 3) ∧ decode b_Model_multiply 171 = .ok (.iconst 0, 1) ∧ decode b_Model_multiply 172 = .ok (.istore 12, 2) ∧ decode b_Model_multiply 174 = .ok (.iload 12, 2) ∧ decode b_Model_multiply 176 = .ok (.ifCond .eq 11, 3) ∧ decode b_Model_multiply 179 = .ok (.aload_n 0, 1) ∧ decode b_Model_multiply 180 = .ok (.iconst 3, 1) ∧ decode b_Model_multiply 181 = .ok (.iload 6, 2) ∧ decode b_Model_multiply 183 = .ok (.invokevirtual 155, 3) ∧ decode b_Model_multiply 186 = .ok (.ireturn, 1) ∧ decode b_Model_multiply 187 = .ok (.aload_n 0, 1) ∧ decode b_Model_multiply 188 = .ok (.iload 7, 2) ∧ decode b_Model_multiply 190 = .ok (.iload 4, 2) ∧ decode b_Model_multiply 192 = .ok (.lload 10, 2) ∧ decode b_Model_multiply 194 = .ok (.iconst 0, 1) ∧ decode b_Model_multiply 195 = .ok (.invokevirtual 178, 3) ∧ decode b_Model_multiply 198 = .ok (.ifCond .ne 11, 3) ∧ decode b_Model_multiply 201 = .ok (.aload_n 0, 1) ∧ decode b_Model_multiply 202 = .ok (.iconst 1, 1) ∧ decode b_Model_multiply 203 = .ok (.iload 6, 2) ∧ decode b_Model_multiply 205 = .ok (.invokevirtual 155, 3) ∧ decode b_Model_multiply 208 = .ok (.ireturn, 1) ∧ decode b_Model_multiply 209 = .ok (.aload_n 0, 1) ∧ decode b_Model_multiply 210 = .ok (.iload 7, 2) ∧ decode b_Model_multiply 212 = .ok (.iload 4, 2) ∧ decode b_Model_multiply 214 = .ok (.lload 10, 2) ∧ decode b_Model_multiply 216 = .ok (.iconst 1, 1) ∧ decode b_Model_multiply 217 = .ok (.invokevirtual 178, 3) ∧ decode b_Model_multiply 220 = .ok (.istore 5, 2) ∧ decode b_Model_multiply 222 = .ok (.iinc 6 1, 3) ∧ decode b_Model_multiply 225 = .ok (.goto (-147), 3) ∧ decode b_Model_multiply 228 = .ok (.aload_n 0, 1) ∧ decode b_Model_multiply 229 = .ok (.iconst 0, 1) ∧ decode b_Model_multiply 230 = .ok (.iconst (-1), 1) ∧ decode b_Model_multiply 231 = .ok (.invokevirtual 155, 3) ∧ decode b_Model_multiply 234 = .ok (.pop, 1) ∧ decode b_Model_multiply 235 = .ok (.aload_n 0, 1) ∧ decode b_Model_multiply 236 = .ok (.getfield 17, 3) ∧ decode b_Model_multiply 239 = .ok (.iload_n 1, 1) ∧ decode b_Model_multiply 240 = .ok (.iaload, 1) ∧ decode b_Model_multiply 241 = .ok (.ireturn, 1) := ⟨by decide +kernel, by decide +kernel, by decide +kernel, by decide +kernel, by decide +kernel, by decide +kernel, by decide +kernel, by decide +kernel, by decide +kernel, by decide +kernel, by decide +kernel, by decide +kernel, by decide +kernel, by decide +kernel, by decide +kernel, by decide +kernel, by decide +kernel, by decide +kernel, by decide +kernel, by decide +kernel, by decide +kernel, by decide +kernel, by decide +kernel, by decide +kernel, by decide +kernel, by decide +kernel, by decide +kernel, by decide +kernel, by decide +kernel, by decide +kernel, by decide +kernel, by decide +kernel, by decide +kernel, by decide +kernel, by decide +kernel, by decide +kernel, by decide +kernel, by decide +kernel, by decide +kernel, by decide +kernel, by decide +kernel, by decide +kernel, by decide +kernel, by decide +kernel, by decide +kernel, by decide +kernel, by decide +kernel, by decide +kernel, by decide +kernel, by decide +kernel, by decide +kernel, by decide +kernel, by decide +kernel, by decide +kernel, by decide +kernel, by decide +kernel, by decide +kernel, by decide +kernel, by decide +kernel, by decide +kernel, by decide +kernel, by decide +kernel, by decide +kernel, by decide +kernel, by decide +kernel, by decide +kernel, by decide +kernel, by decide +kernel, by decide +kernel, by decide +kernel, by decide +kernel, by decide +kernel, by decide +kernel, by decide +kernel, by decide +kernel, by decide +kernel, by decide +kernel, by decide +kernel, by decide +kernel, by decide +kernel, by decide +kernel, by decide +kernel, by decide +kernel, by decide +kernel, by decide +kernel, by decide +kernel, by decide +kernel, by decide +kernel, by decide +kernel, by decide +kernel, by decide +kernel, by decide +kernel, by decide +kernel, by decide +kernel, by decide +kernel, by decide +kernel, by decide +kernel, by decide +kernel, by decide +kernel, by decide +kernel, by decide +kernel, by decide +kernel, by decide +kernel, by decide +kernel, by decide +kernel, by decide +kernel, by decide +kernel, by decide +kernel, by decide +kernel, by decide +kernel, by decide +kernel, by decide +kernel, by decide +kernel, by decide +kernel, by decide +kernel, by decide +kernel, by decide +kernel, by decide +kernel, by decide +kernel, by decide +kernel, by decide +kernel, by decide +kernel, by decide +kernel, by decide +kernel, by decide +kernel, by decide +kernel, by decide +kernel, by decide +kernel⟩
theorem v_Model_multiply : Cond.instanceMethod y_Model_multiply ∈ nm_Ts ∧ Cond.selects y_Model_multiply.cls y_Model_multiply y_Model_multiply ∈ nm_Ts ∧ Cond.initialized y_Model_multiply.cls ∈ nm_Ts ∧ Cond.code y_Model_multiply b_Model_multiply 13 (some .int) ∈ nm_Ts ∧ mz_cl1 y_Model_multiply 4 := ⟨nm_t5 38 rfl rfl, nm_t5 39 rfl rfl, nm_t1 12 rfl rfl, nm_t5 40 rfl rfl, by decide +kernel⟩
def y_Model_isFactor : MethodName := ⟨"CardOfficeModel", "isFactor", "(I)Z"⟩
abbrev b_Model_isFactor : ByteArray := prog_14_method_39_code
def r_Model_isFactor (c s : Nat) : Room := { frames := 0, cells := c, slots := s, locals := 0 }
theorem d_Model_isFactor : decode b_Model_isFactor 0 = .ok (.iload_n 0, 1) ∧ decode b_Model_isFactor 1 = .ok (.ifCond .lt 27, 3) ∧ decode b_Model_isFactor 4 = .ok (.iload_n 0, 1) ∧ decode b_Model_isFactor 5 = .ok (.bipush 96, 2) ∧ decode b_Model_isFactor 7 = .ok (.if_icmp .ge 21, 3) ∧ decode b_Model_isFactor 10 = .ok (.iload_n 0, 1) ∧ decode b_Model_isFactor 11 = .ok (.bipush 16, 2) ∧ decode b_Model_isFactor 13 = .ok (.irem, 1) ∧ decode b_Model_isFactor 14 = .ok (.iload_n 0, 1) ∧ decode b_Model_isFactor 15 = .ok (.bipush 16, 2) ∧ decode b_Model_isFactor 17 = .ok (.idiv, 1) ∧ decode b_Model_isFactor 18 = .ok (.iadd, 1) ∧ decode b_Model_isFactor 19 = .ok (.bipush 16, 2) ∧ decode b_Model_isFactor 21 = .ok (.if_icmp .ge 7, 3) ∧ decode b_Model_isFactor 24 = .ok (.iconst 1, 1) ∧ decode b_Model_isFactor 25 = .ok (.goto 4, 3) ∧ decode b_Model_isFactor 28 = .ok (.iconst 0, 1) ∧ decode b_Model_isFactor 29 = .ok (.ireturn, 1) := ⟨by decide +kernel, by decide +kernel, by decide +kernel, by decide +kernel, by decide +kernel, by decide +kernel, by decide +kernel, by decide +kernel, by decide +kernel, by decide +kernel, by decide +kernel, by decide +kernel, by decide +kernel, by decide +kernel, by decide +kernel, by decide +kernel, by decide +kernel, by decide +kernel⟩
theorem s_Model_isFactor : Cond.static y_Model_isFactor ∈ nm_Ts ∧ Cond.initialized y_Model_isFactor.cls ∈ nm_Ts ∧ Cond.code y_Model_isFactor b_Model_isFactor 1 (some .boolean) ∈ nm_Ts ∧ mz_cl1 y_Model_isFactor 1 := ⟨nm_t5 42 rfl rfl, nm_t1 12 rfl rfl, nm_t5 43 rfl rfl, by decide +kernel⟩
def y_Model_meet : MethodName := ⟨"CardOfficeModel", "meet", "(II)Z"⟩
abbrev b_Model_meet : ByteArray := prog_14_method_40_code
def r_Model_meet (c s : Nat) : Room := { frames := 0, cells := c, slots := s, locals := 0 }
theorem d_Model_meet : decode b_Model_meet 0 = .ok (.iload_n 0, 1) ∧ decode b_Model_meet 1 = .ok (.bipush 16, 2) ∧ decode b_Model_meet 3 = .ok (.irem, 1) ∧ decode b_Model_meet 4 = .ok (.iload_n 1, 1) ∧ decode b_Model_meet 5 = .ok (.bipush 16, 2) ∧ decode b_Model_meet 7 = .ok (.irem, 1) ∧ decode b_Model_meet 8 = .ok (.iload_n 1, 1) ∧ decode b_Model_meet 9 = .ok (.bipush 16, 2) ∧ decode b_Model_meet 11 = .ok (.idiv, 1) ∧ decode b_Model_meet 12 = .ok (.iadd, 1) ∧ decode b_Model_meet 13 = .ok (.if_icmp .gt 23, 3) ∧ decode b_Model_meet 16 = .ok (.iload_n 1, 1) ∧ decode b_Model_meet 17 = .ok (.bipush 16, 2) ∧ decode b_Model_meet 19 = .ok (.irem, 1) ∧ decode b_Model_meet 20 = .ok (.iload_n 0, 1) ∧ decode b_Model_meet 21 = .ok (.bipush 16, 2) ∧ decode b_Model_meet 23 = .ok (.irem, 1) ∧ decode b_Model_meet 24 = .ok (.iload_n 0, 1) ∧ decode b_Model_meet 25 = .ok (.bipush 16, 2) ∧ decode b_Model_meet 27 = .ok (.idiv, 1) ∧ decode b_Model_meet 28 = .ok (.iadd, 1) ∧ decode b_Model_meet 29 = .ok (.if_icmp .gt 7, 3) ∧ decode b_Model_meet 32 = .ok (.iconst 1, 1) ∧ decode b_Model_meet 33 = .ok (.goto 4, 3) ∧ decode b_Model_meet 36 = .ok (.iconst 0, 1) ∧ decode b_Model_meet 37 = .ok (.ireturn, 1) := ⟨by decide +kernel, by decide +kernel, by decide +kernel, by decide +kernel, by decide +kernel, by decide +kernel, by decide +kernel, by decide +kernel, by decide +kernel, by decide +kernel, by decide +kernel, by decide +kernel, by decide +kernel, by decide +kernel, by decide +kernel, by decide +kernel, by decide +kernel, by decide +kernel, by decide +kernel, by decide +kernel, by decide +kernel, by decide +kernel, by decide +kernel, by decide +kernel, by decide +kernel, by decide +kernel⟩
theorem s_Model_meet : Cond.static y_Model_meet ∈ nm_Ts ∧ Cond.initialized y_Model_meet.cls ∈ nm_Ts ∧ Cond.code y_Model_meet b_Model_meet 2 (some .boolean) ∈ nm_Ts ∧ mz_cl1 y_Model_meet 2 := ⟨nm_t5 45 rfl rfl, nm_t1 12 rfl rfl, nm_t5 46 rfl rfl, by decide +kernel⟩
def y_Model_numberOf : MethodName := ⟨"CardOfficeModel", "numberOf", "(II)I"⟩
abbrev b_Model_numberOf : ByteArray := prog_14_method_41_code
def r_Model_numberOf (c s : Nat) : Room := { frames := 1, cells := c, slots := s, locals := 22 }
theorem d_Model_numberOf : decode b_Model_numberOf 0 = .ok (.iconst 0, 1) ∧ decode b_Model_numberOf 1 = .ok (.istore_n 3, 1) ∧ decode b_Model_numberOf 2 = .ok (.iload_n 2, 1) ∧ decode b_Model_numberOf 3 = .ok (.bipush 16, 2) ∧ decode b_Model_numberOf 5 = .ok (.irem, 1) ∧ decode b_Model_numberOf 6 = .ok (.istore 4, 2) ∧ decode b_Model_numberOf 8 = .ok (.iload 4, 2) ∧ decode b_Model_numberOf 10 = .ok (.iload_n 2, 1) ∧ decode b_Model_numberOf 11 = .ok (.bipush 16, 2) ∧ decode b_Model_numberOf 13 = .ok (.irem, 1) ∧ decode b_Model_numberOf 14 = .ok (.iload_n 2, 1) ∧ decode b_Model_numberOf 15 = .ok (.bipush 16, 2) ∧ decode b_Model_numberOf 17 = .ok (.idiv, 1) ∧ decode b_Model_numberOf 18 = .ok (.iadd, 1) ∧ decode b_Model_numberOf 19 = .ok (.if_icmp .gt 68, 3) ∧ decode b_Model_numberOf 22 = .ok (.aload_n 0, 1) ∧ decode b_Model_numberOf 23 = .ok (.iload_n 1, 1) ∧ decode b_Model_numberOf 24 = .ok (.iload 4, 2) ∧ decode b_Model_numberOf 26 = .ok (.invokevirtual 91, 3) ∧ decode b_Model_numberOf 29 = .ok (.istore 5, 2) ∧ decode b_Model_numberOf 31 = .ok (.iload 5, 2) ∧ decode b_Model_numberOf 33 = .ok (.bipush 32, 2) ∧ decode b_Model_numberOf 35 = .ok (.if_icmp .ne 7, 3) ∧ decode b_Model_numberOf 38 = .ok (.iconst 0, 1) ∧ decode b_Model_numberOf 39 = .ok (.goto 19, 3) ∧ decode b_Model_numberOf 42 = .ok (.iload 5, 2) ∧ decode b_Model_numberOf 44 = .ok (.bipush 65, 2) ∧ decode b_Model_numberOf 46 = .ok (.if_icmp .ge 11, 3) ∧ decode b_Model_numberOf 49 = .ok (.iload 5, 2) ∧ decode b_Model_numberOf 51 = .ok (.bipush 48, 2) ∧ decode b_Model_numberOf 53 = .ok (.isub, 1) ∧ decode b_Model_numberOf 54 = .ok (.goto 4, 3) ∧ decode b_Model_numberOf 57 = .ok (.iconst (-1), 1) ∧ decode b_Model_numberOf 58 = .ok (.istore 6, 2) ∧ decode b_Model_numberOf 60 = .ok (.iload_n 3, 1) ∧ decode b_Model_numberOf 61 = .ok (.ifCond .lt 8, 3) ∧ decode b_Model_numberOf 64 = .ok (.iload 6, 2) ∧ decode b_Model_numberOf 66 = .ok (.ifCond .ge 7, 3) ∧ decode b_Model_numberOf 69 = .ok (.iconst (-1), 1) ∧ decode b_Model_numberOf 70 = .ok (.goto 10, 3) ∧ decode b_Model_numberOf 73 = .ok (.bipush 10, 2) ∧ decode b_Model_numberOf 75 = .ok (.iload_n 3, 1) ∧ decode b_Model_numberOf 76 = .ok (.imul, 1) ∧ decode b_Model_numberOf 77 = .ok (.iload 6, 2) ∧ decode b_Model_numberOf 79 = .ok (.iadd, 1) ∧ decode b_Model_numberOf 80 = .ok (.istore_n 3, 1) ∧ decode b_Model_numberOf 81 = .ok (.iinc 4 1, 3) ∧ decode b_Model_numberOf 84 = .ok (.goto (-76), 3) ∧ decode b_Model_numberOf 87 = .ok (.iload_n 3, 1) ∧ decode b_Model_numberOf 88 = .ok (.ireturn, 1) := ⟨by decide +kernel, by decide +kernel, by decide +kernel, by decide +kernel, by decide +kernel, by decide +kernel, by decide +kernel, by decide +kernel, by decide +kernel, by decide +kernel, by decide +kernel, by decide +kernel, by decide +kernel, by decide +kernel, by decide +kernel, by decide +kernel, by decide +kernel, by decide +kernel, by decide +kernel, by decide +kernel, by decide +kernel, by decide +kernel, by decide +kernel, by decide +kernel, by decide +kernel, by decide +kernel, by decide +kernel, by decide +kernel, by decide +kernel, by decide +kernel, by decide +kernel, by decide +kernel, by decide +kernel, by decide +kernel, by decide +kernel, by decide +kernel, by decide +kernel, by decide +kernel, by decide +kernel, by decide +kernel, by decide +kernel, by decide +kernel, by decide +kernel, by decide +kernel, by decide +kernel, by decide +kernel, by decide +kernel, by decide +kernel, by decide +kernel, by decide +kernel⟩
theorem v_Model_numberOf : Cond.instanceMethod y_Model_numberOf ∈ nm_Ts ∧ Cond.selects y_Model_numberOf.cls y_Model_numberOf y_Model_numberOf ∈ nm_Ts ∧ Cond.initialized y_Model_numberOf.cls ∈ nm_Ts ∧ Cond.code y_Model_numberOf b_Model_numberOf 7 (some .int) ∈ nm_Ts ∧ mz_cl1 y_Model_numberOf 2 := ⟨nm_t5 49 rfl rfl, nm_s 35 rfl rfl, nm_t1 12 rfl rfl, nm_t5 50 rfl rfl, by decide +kernel⟩
def y_Model_tenTo : MethodName := ⟨"CardOfficeModel", "tenTo", "(I)J"⟩
abbrev b_Model_tenTo : ByteArray := prog_14_method_43_code
def r_Model_tenTo (c s : Nat) : Room := { frames := 0, cells := c, slots := s, locals := 0 }
theorem d_Model_tenTo : decode b_Model_tenTo 0 = .ok (.lconst 1, 1) ∧ decode b_Model_tenTo 1 = .ok (.lstore_n 1, 1) ∧ decode b_Model_tenTo 2 = .ok (.iconst 0, 1) ∧ decode b_Model_tenTo 3 = .ok (.istore_n 3, 1) ∧ decode b_Model_tenTo 4 = .ok (.iload_n 3, 1) ∧ decode b_Model_tenTo 5 = .ok (.iload_n 0, 1) ∧ decode b_Model_tenTo 6 = .ok (.if_icmp .ge 15, 3) ∧ decode b_Model_tenTo 9 = .ok (.ldc2_w 161, 3) ∧ decode b_Model_tenTo 12 = .ok (.lload_n 1, 1) ∧ decode b_Model_tenTo 13 = .ok (.lmul, 1) ∧ decode b_Model_tenTo 14 = .ok (.lstore_n 1, 1) ∧ decode b_Model_tenTo 15 = .ok (.iinc 3 1, 3) ∧ decode b_Model_tenTo 18 = .ok (.goto (-14), 3) ∧ decode b_Model_tenTo 21 = .ok (.lload_n 1, 1) ∧ decode b_Model_tenTo 22 = .ok (.lreturn, 1) := ⟨by decide +kernel, by decide +kernel, by decide +kernel, by decide +kernel, by decide +kernel, by decide +kernel, by decide +kernel, by decide +kernel, by decide +kernel, by decide +kernel, by decide +kernel, by decide +kernel, by decide +kernel, by decide +kernel, by decide +kernel⟩
theorem s_Model_tenTo : Cond.static y_Model_tenTo ∈ nm_Ts ∧ Cond.initialized y_Model_tenTo.cls ∈ nm_Ts ∧ Cond.code y_Model_tenTo b_Model_tenTo 4 (some .long) ∈ nm_Ts ∧ mz_cl1 y_Model_tenTo 1 := ⟨nm_t5 54 rfl rfl, nm_t1 12 rfl rfl, nm_t5 55 rfl rfl, by decide +kernel⟩
def y_Model_punches : MethodName := ⟨"CardOfficeModel", "punches", "(IIJZ)Z"⟩
abbrev b_Model_punches : ByteArray := prog_14_method_42_code
def r_Model_punches (c s : Nat) : Room := { frames := 1, cells := c, slots := s, locals := 22 }
theorem d_Model_punches : decode b_Model_punches 0 = .ok (.lload_n 3, 1) ∧ decode b_Model_punches 1 = .ok (.lstore 6, 2) ∧ decode b_Model_punches 3 = .ok (.iconst 1, 1) ∧ decode b_Model_punches 4 = .ok (.istore 8, 2) ∧ decode b_Model_punches 6 = .ok (.iload_n 2, 1) ∧ decode b_Model_punches 7 = .ok (.bipush 16, 2) ∧ decode b_Model_punches 9 = .ok (.irem, 1) ∧ decode b_Model_punches 10 = .ok (.iload_n 2, 1) ∧ decode b_Model_punches 11 = .ok (.bipush 16, 2) ∧ decode b_Model_punches 13 = .ok (.idiv, 1) ∧ decode b_Model_punches 14 = .ok (.iadd, 1) ∧ decode b_Model_punches 15 = .ok (.istore 9, 2) ∧ decode b_Model_punches 17 = .ok (.iload 9, 2) ∧ decode b_Model_punches 19 = .ok (.iload_n 2, 1) ∧ decode b_Model_punches 20 = .ok (.bipush 16, 2) ∧ decode b_Model_punches 22 = .ok (.irem, 1) ∧ decode b_Model_punches 23 = .ok (.if_icmp .lt 85, 3) ∧ decode b_Model_punches 26 = .ok (.bipush 48, 2) ∧ decode b_Model_punches 28 = .ok (.lload 6, 2) ∧ decode b_Model_punches 30 = .ok (.ldc2_w 161, 3) ∧ decode b_Model_punches 33 = .ok (.lrem, 1) ∧ decode b_Model_punches 34 = .ok (.l2i, 1) ∧ decode b_Model_punches 35 = .ok (.iadd, 1) ∧ decode b_Model_punches 36 = .ok (.istore 10, 2) ∧ decode b_Model_punches 38 = .ok (.lload 6, 2) ∧ decode b_Model_punches 40 = .ok (.ldc2_w 161, 3) ∧ decode b_Model_punches 43 = .ok (.ldiv, 1) ∧ decode b_Model_punches 44 = .ok (.lstore 6, 2) ∧ decode b_Model_punches 46 = .ok (.iload 8, 2) ∧ decode b_Model_punches 48 = .ok (.ifCond .eq 31, 3) ∧ decode b_Model_punches 51 = .ok (.aload_n 0, 1) ∧ decode b_Model_punches 52 = .ok (.iload_n 1, 1) ∧ decode b_Model_punches 53 = .ok (.iload 9, 2) ∧ decode b_Model_punches 55 = .ok (.invokevirtual 91, 3) ∧ decode b_Model_punches 58 = .ok (.bipush 32, 2) ∧ decode b_Model_punches 60 = .ok (.if_icmp .eq 15, 3) ∧ decode b_Model_punches 63 = .ok (.aload_n 0, 1) ∧ decode b_Model_punches 64 = .ok (.iload_n 1, 1) ∧ decode b_Model_punches 65 = .ok (.iload 9, 2) ∧ decode b_Model_punches 67 = .ok (.invokevirtual 91, 3) ∧ decode b_Model_punches 70 = .ok (.iload 10, 2) ∧ decode b_Model_punches 72 = .ok (.if_icmp .ne 7, 3) ∧ decode b_Model_punches 75 = .ok (.iconst 1, 1) ∧ decode b_Model_punches 76 = .ok (.goto 4, 3) ∧ decode b_Model_punches 79 = .ok (.iconst 0, 1) ∧ decode b_Model_punches 80 = .ok (.istore 8, 2) ∧ decode b_Model_punches 82 = .ok (.iload 5, 2) ∧ decode b_Model_punches 84 = .ok (.ifCond .eq 18, 3) ∧ decode b_Model_punches 87 = .ok (.aload_n 0, 1) ∧ decode b_Model_punches 88 = .ok (.getfield 7, 3) ∧ decode b_Model_punches 91 = .ok (.bipush 16, 2) ∧ decode b_Model_punches 93 = .ok (.iload_n 1, 1) ∧ decode b_Model_punches 94 = .ok (.imul, 1) ∧ decode b_Model_punches 95 = .ok (.iload 9, 2) ∧ decode b_Model_punches 97 = .ok (.iadd, 1) ∧ decode b_Model_punches 98 = .ok (.iload 10, 2) ∧ decode b_Model_punches 100 = .ok (.i2b, 1) ∧ decode b_Model_punches 101 = .ok (.bastore, 1) ∧ decode b_Model_punches 102 = .ok (.iinc 9 (-1), 3) ∧ decode b_Model_punches 105 = .ok (.goto (-88), 3) ∧ decode b_Model_punches 108 = .ok (.iload 8, 2) ∧ decode b_Model_punches 110 = .ok (.ireturn, 1) := ⟨by decide +kernel, by decide +kernel, by decide +kernel, by decide +kernel, by decide +kernel, by decide +kernel, by decide +kernel, by decide +kernel, by decide +kernel, by decide +kernel, by decide +kernel, by decide +kernel, by decide +kernel, by decide +kernel, by decide +kernel, by decide +kernel, by decide +kernel, by decide +kernel, by decide +kernel, by decide +kernel, by decide +kernel, by decide +kernel, by decide +kernel, by decide +kernel, by decide +kernel, by decide +kernel, by decide +kernel, by decide +kernel, by decide +kernel, by decide +kernel, by decide +kernel, by decide +kernel, by decide +kernel, by decide +kernel, by decide +kernel, by decide +kernel, by decide +kernel, by decide +kernel, by decide +kernel, by decide +kernel, by decide +kernel, by decide +kernel, by decide +kernel, by decide +kernel, by decide +kernel, by decide +kernel, by decide +kernel, by decide +kernel, by decide +kernel, by decide +kernel, by decide +kernel, by decide +kernel, by decide +kernel, by decide +kernel, by decide +kernel, by decide +kernel, by decide +kernel, by decide +kernel, by decide +kernel, by decide +kernel, by decide +kernel, by decide +kernel⟩
theorem v_Model_punches : Cond.instanceMethod y_Model_punches ∈ nm_Ts ∧ Cond.selects y_Model_punches.cls y_Model_punches y_Model_punches ∈ nm_Ts ∧ Cond.initialized y_Model_punches.cls ∈ nm_Ts ∧ Cond.code y_Model_punches b_Model_punches 11 (some .boolean) ∈ nm_Ts ∧ mz_cl1 y_Model_punches 4 := ⟨nm_t5 58 rfl rfl, nm_s 36 rfl rfl, nm_t1 12 rfl rfl, nm_t5 59 rfl rfl, by decide +kernel⟩
def y_Model_tabulate : MethodName := ⟨"CardOfficeModel", "tabulate", "(II)I"⟩
abbrev b_Model_tabulate : ByteArray := prog_14_method_57_code
def r_Model_tabulate (c s : Nat) : Room := { frames := 5, cells := c, slots := s, locals := 128 }
theorem d_Model_tabulate : decode b_Model_tabulate 0 = .ok (.aload_n 0, 1) ∧ decode b_Model_tabulate 1 = .ok (.iload_n 1, 1) ∧ decode b_Model_tabulate 2 = .ok (.invokestatic 82, 3) ∧ decode b_Model_tabulate 5 = .ok (.ifCond .eq 14, 3) ∧ decode b_Model_tabulate 8 = .ok (.iload_n 2, 1) ∧ decode b_Model_tabulate 9 = .ok (.invokestatic 65, 3) ∧ decode b_Model_tabulate 12 = .ok (.ifCond .eq 7, 3) ∧ decode b_Model_tabulate 15 = .ok (.iconst 0, 1) ∧ decode b_Model_tabulate 16 = .ok (.goto 4, 3) ∧ decode b_Model_tabulate 19 = .ok (.iconst 1, 1) ∧ decode b_Model_tabulate 20 = .ok (.putfield 52, 3) ∧ decode b_Model_tabulate 23 = .ok (.aload_n 0, 1) ∧ decode b_Model_tabulate 24 = .ok (.getfield 52, 3) ∧ decode b_Model_tabulate 27 = .ok (.ifCond .le 5, 3) ∧ decode b_Model_tabulate 30 = .ok (.iconst 0, 1) ∧ decode b_Model_tabulate 31 = .ok (.ireturn, 1) ∧ decode b_Model_tabulate 32 = .ok (.iconst 0, 1) ∧ decode b_Model_tabulate 33 = .ok (.istore_n 3, 1) ∧ decode b_Model_tabulate 34 = .ok (.iload_n 3, 1) ∧ decode b_Model_tabulate 35 = .ok (.iconst 4, 1) ∧ decode b_Model_tabulate 36 = .ok (.if_icmp .ge 16, 3) ∧ decode b_Model_tabulate 39 = .ok (.aload_n 0, 1) ∧ decode b_Model_tabulate 40 = .ok (.getfield 39, 3) ∧ decode b_Model_tabulate 43 = .ok (.iload_n 3, 1) ∧ decode b_Model_tabulate 44 = .ok (.iconst 0, 1) ∧ decode b_Model_tabulate 45 = .ok (.iastore, 1) ∧ decode b_Model_tabulate 46 = .ok (.iinc 3 1, 3) ∧ decode b_Model_tabulate 49 = .ok (.goto (-15), 3) ∧ decode b_Model_tabulate 52 = .ok (.aload_n 0, 1) ∧ decode b_Model_tabulate 53 = .ok (.getfield 17, 3) ∧ decode b_Model_tabulate 56 = .ok (.iload_n 2, 1) ∧ decode b_Model_tabulate 57 = .ok (.iaload, 1) ∧ decode b_Model_tabulate 58 = .ok (.istore_n 3, 1) ∧ decode b_Model_tabulate 59 = .ok (.iconst 0, 1) ∧ decode b_Model_tabulate 60 = .ok (.istore 4, 2) ∧ decode b_Model_tabulate 62 = .ok (.iload 4, 2) ∧ decode b_Model_tabulate 64 = .ok (.iload_n 3, 1) ∧ decode b_Model_tabulate 65 = .ok (.if_icmp .ge 113, 3) ∧ decode b_Model_tabulate 68 = .ok (.iconst 0, 1) ∧ decode b_Model_tabulate 69 = .ok (.istore 5, 2) ∧ decode b_Model_tabulate 71 = .ok (.iconst 0, 1) ∧ decode b_Model_tabulate 72 = .ok (.istore 6, 2) ∧ decode b_Model_tabulate 74 = .ok (.iload 6, 2) ∧ decode b_Model_tabulate 76 = .ok (.iconst 3, 1) ∧ decode b_Model_tabulate 77 = .ok (.if_icmp .ge 51, 3) ∧ decode b_Model_tabulate 80 = .ok (.iload 4, 2) ∧ decode b_Model_tabulate 82 = .ok (.ifCond .le 46, 3) ∧ decode b_Model_tabulate 85 = .ok (.aload_n 0, 1) ∧ decode b_Model_tabulate 86 = .ok (.iload_n 1, 1) ∧ decode b_Model_tabulate 87 = .ok (.iload 6, 2) ∧ decode b_Model_tabulate 89 = .ok (.aload_n 0, 1) ∧ decode b_Model_tabulate 90 = .ok (.iload_n 2, 1) ∧ decode b_Model_tabulate 91 = .ok (.iload 4, 2) ∧ decode b_Model_tabulate 93 = .ok (.iconst 1, 1) ∧ decode b_Model_tabulate 94 = .ok (.isub, 1) ∧ decode b_Model_tabulate 95 = .ok (.invokevirtual 98, 3) ∧ decode b_Model_tabulate 98 = .ok (.aload_n 0, 1) ∧ decode b_Model_tabulate 99 = .ok (.iload_n 2, 1) ∧ decode b_Model_tabulate 100 = .ok (.iload 4, 2) ∧ decode b_Model_tabulate 102 = .ok (.invokevirtual 98, 3) ∧ decode b_Model_tabulate 105 = .ok (.invokevirtual 210, 3) ∧ decode b_Model_tabulate 108 = .ok (.ifCond .eq 10, 3) ∧ decode b_Model_tabulate 111 = .ok (.iload 6, 2) ∧ decode b_Model_tabulate 113 = .ok (.iconst 1, 1) ∧ decode b_Model_tabulate 114 = .ok (.iadd, 1) ∧ decode b_Model_tabulate 115 = .ok (.goto 5, 3) ∧ decode b_Model_tabulate 118 = .ok (.iload 5, 2) ∧ decode b_Model_tabulate 120 = .ok (.istore 5, 2) ∧ decode b_Model_tabulate 122 = .ok (.iinc 6 1, 3) ∧ decode b_Model_tabulate 125 = .ok (.goto (-51), 3) ∧ decode b_Model_tabulate 128 = .ok (.aload_n 0, 1) ∧ decode b_Model_tabulate 129 = .ok (.iload_n 1, 1) ∧ decode b_Model_tabulate 130 = .ok (.aload_n 0, 1) ∧ decode b_Model_tabulate 131 = .ok (.iload_n 2, 1) ∧ decode b_Model_tabulate 132 = .ok (.iload 4, 2) ∧ decode b_Model_tabulate 134 = .ok (.invokevirtual 98, 3) ∧ decode b_Model_tabulate 137 = .ok (.iload 5, 2) ∧ decode b_Model_tabulate 139 = .ok (.invokevirtual 213, 3) ∧ decode b_Model_tabulate 142 = .ok (.istore 6, 2) ∧ decode b_Model_tabulate 144 = .ok (.iload 6, 2) ∧ decode b_Model_tabulate 146 = .ok (.ifCond .le 12, 3) ∧ decode b_Model_tabulate 149 = .ok (.aload_n 0, 1) ∧ decode b_Model_tabulate 150 = .ok (.iload 6, 2) ∧ decode b_Model_tabulate 152 = .ok (.iload 4, 2) ∧ decode b_Model_tabulate 154 = .ok (.invokevirtual 155, 3) ∧ decode b_Model_tabulate 157 = .ok (.ireturn, 1) ∧ decode b_Model_tabulate 158 = .ok (.aload_n 0, 1) ∧ decode b_Model_tabulate 159 = .ok (.iload_n 1, 1) ∧ decode b_Model_tabulate 160 = .ok (.aload_n 0, 1) ∧ decode b_Model_tabulate 161 = .ok (.iload_n 2, 1) ∧ decode b_Model_tabulate 162 = .ok (.iload 4, 2) ∧ decode b_Model_tabulate 164 = .ok (.invokevirtual 98, 3) ∧ decode b_Model_tabulate 167 = .ok (.iload 5, 2) ∧ decode b_Model_tabulate 169 = .ok (.invokevirtual 216, 3) ∧ decode b_Model_tabulate 172 = .ok (.iinc 4 1, 3) ∧ decode b_Model_tabulate 175 = .ok (.goto (-113), 3) ∧ decode b_Model_tabulate 178 = .ok (.iload_n 3, 1) ∧ decode b_Model_tabulate 179 = .ok (.ifCond .le 11, 3) ∧ decode b_Model_tabulate 182 = .ok (.aload_n 0, 1) ∧ decode b_Model_tabulate 183 = .ok (.iload_n 1, 1) ∧ decode b_Model_tabulate 184 = .ok (.invokevirtual 220, 3) ∧ decode b_Model_tabulate 187 = .ok (.goto 4, 3) ∧ decode b_Model_tabulate 190 = .ok (.iconst 0, 1) ∧ decode b_Model_tabulate 191 = .ok (.istore 4, 2) ∧ decode b_Model_tabulate 193 = .ok (.iload 4, 2) ∧ decode b_Model_tabulate 195 = .ok (.ifCond .le 11, 3) ∧ decode b_Model_tabulate 198 = .ok (.aload_n 0, 1) ∧ decode b_Model_tabulate 199 = .ok (.iload 4, 2) ∧ decode b_Model_tabulate 201 = .ok (.iload_n 3, 1) ∧ decode b_Model_tabulate 202 = .ok (.invokevirtual 155, 3) ∧ decode b_Model_tabulate 205 = .ok (.ireturn, 1) ∧ decode b_Model_tabulate 206 = .ok (.iconst 0, 1) ∧ decode b_Model_tabulate 207 = .ok (.istore 5, 2) ∧ decode b_Model_tabulate 209 = .ok (.iload 5, 2) ∧ decode b_Model_tabulate 211 = .ok (.iconst 4, 1) ∧ decode b_Model_tabulate 212 = .ok (.if_icmp .ge 20, 3) ∧ decode b_Model_tabulate 215 = .ok (.iload_n 3, 1) ∧ decode b_Model_tabulate 216 = .ok (.ifCond .le 16, 3) ∧ decode b_Model_tabulate 219 = .ok (.aload_n 0, 1) ∧ decode b_Model_tabulate 220 = .ok (.iload_n 1, 1) ∧ decode b_Model_tabulate 221 = .ok (.iload 5, 2) ∧ decode b_Model_tabulate 223 = .ok (.invokevirtual 207, 3) ∧ decode b_Model_tabulate 226 = .ok (.iinc 5 1, 3) ∧ decode b_Model_tabulate 229 = .ok (.goto (-20), 3) ∧ decode b_Model_tabulate 232 = .ok (.aload_n 0, 1) ∧ decode b_Model_tabulate 233 = .ok (.iconst 0, 1) ∧ decode b_Model_tabulate 234 = .ok (.iconst (-1), 1) ∧ decode b_Model_tabulate 235 = .ok (.invokevirtual 155, 3) ∧ decode b_Model_tabulate 238 = .ok (.pop, 1) ∧ decode b_Model_tabulate 239 = .ok (.iload_n 3, 1) ∧ decode b_Model_tabulate 240 = .ok (.ireturn, 1) := ⟨by decide +kernel, by decide +kernel, by decide +kernel, by decide +kernel, by decide +kernel, by decide +kernel, by decide +kernel, by decide +kernel, by decide +kernel, by decide +kernel, by decide +kernel, by decide +kernel, by decide +kernel, by decide +kernel, by decide +kernel, by decide +kernel, by decide +kernel, by decide +kernel, by decide +kernel, by decide +kernel, by decide +kernel, by decide +kernel, by decide +kernel, by decide +kernel, by decide +kernel, by decide +kernel, by decide +kernel, by decide +kernel, by decide +kernel, by decide +kernel, by decide +kernel, by decide +kernel, by decide +kernel, by decide +kernel, by decide +kernel, by decide +kernel, by decide +kernel, by decide +kernel, by decide +kernel, by decide +kernel, by decide +kernel, by decide +kernel, by decide +kernel, by decide +kernel, by decide +kernel, by decide +kernel, by decide +kernel, by decide +kernel, by decide +kernel, by decide +kernel, by decide +kernel, by decide +kernel, by decide +kernel, by decide +kernel, by decide +kernel, by decide +kernel, by decide +kernel, by decide +kernel, by decide +kernel, by decide +kernel, by decide +kernel, by decide +kernel, by decide +kernel, by decide +kernel, by decide +kernel, by decide +kernel, by decide +kernel, by decide +kernel, by decide +kernel, by decide +kernel, by decide +kernel, by decide +kernel, by decide +kernel, by decide +kernel, by decide +kernel, by decide +kernel, by decide +kernel, by decide +kernel, by decide +kernel, by decide +kernel, by decide +kernel, by decide +kernel, by decide +kernel, by decide +kernel, by decide +kernel, by decide +kernel, by decide +kernel, by decide +kernel, by decide +kernel, by decide +kernel, by decide +kernel, by decide +kernel, by decide +kernel, by decide +kernel, by decide +kernel, by decide +kernel, by decide +kernel, by decide +kernel, by decide +kernel, by decide +kernel, by decide +kernel, by decide +kernel, by decide +kernel, by decide +kernel, by decide +kernel, by decide +kernel, by decide +kernel, by decide +kernel, by decide +kernel, by decide +kernel, by decide +kernel, by decide +kernel, by decide +kernel, by decide +kernel, by decide +kernel, by decide +kernel, by decide +kernel, by decide +kernel, by decide +kernel, by decide +kernel, by decide +kernel, by decide +kernel, by decide +kernel, by decide +kernel, by decide +kernel, by decide +kernel, by decide +kernel, by decide +kernel, by decide +kernel, by decide +kernel, by decide +kernel⟩
theorem v_Model_tabulate : Cond.instanceMethod y_Model_tabulate ∈ nm_Ts ∧ Cond.selects y_Model_tabulate.cls y_Model_tabulate y_Model_tabulate ∈ nm_Ts ∧ Cond.initialized y_Model_tabulate.cls ∈ nm_Ts ∧ Cond.code y_Model_tabulate b_Model_tabulate 7 (some .int) ∈ nm_Ts ∧ mz_cl1 y_Model_tabulate 2 := ⟨nm_t5 61 rfl rfl, nm_t5 62 rfl rfl, nm_t1 12 rfl rfl, nm_t5 63 rfl rfl, by decide +kernel⟩
def y_Model_breaks : MethodName := ⟨"CardOfficeModel", "breaks", "(IIII)Z"⟩
abbrev b_Model_breaks : ByteArray := prog_14_method_45_code
def r_Model_breaks (c s : Nat) : Room := { frames := 1, cells := c, slots := s, locals := 22 }
theorem d_Model_breaks : decode b_Model_breaks 0 = .ok (.iconst 0, 1) ∧ decode b_Model_breaks 1 = .ok (.istore 5, 2) ∧ decode b_Model_breaks 3 = .ok (.bipush 40, 2) ∧ decode b_Model_breaks 5 = .ok (.iload_n 1, 1) ∧ decode b_Model_breaks 6 = .ok (.imul, 1) ∧ decode b_Model_breaks 7 = .ok (.istore 6, 2) ∧ decode b_Model_breaks 9 = .ok (.iload 6, 2) ∧ decode b_Model_breaks 11 = .ok (.bipush 40, 2) ∧ decode b_Model_breaks 13 = .ok (.iload_n 1, 1) ∧ decode b_Model_breaks 14 = .ok (.imul, 1) ∧ decode b_Model_breaks 15 = .ok (.aload_n 0, 1) ∧ decode b_Model_breaks 16 = .ok (.getfield 33, 3) ∧ decode b_Model_breaks 19 = .ok (.iload_n 1, 1) ∧ decode b_Model_breaks 20 = .ok (.iaload, 1) ∧ decode b_Model_breaks 21 = .ok (.iadd, 1) ∧ decode b_Model_breaks 22 = .ok (.if_icmp .ge 116, 3) ∧ decode b_Model_breaks 25 = .ok (.aload_n 0, 1) ∧ decode b_Model_breaks 26 = .ok (.getfield 30, 3) ∧ decode b_Model_breaks 29 = .ok (.iload 6, 2) ∧ decode b_Model_breaks 31 = .ok (.baload, 1) ∧ decode b_Model_breaks 32 = .ok (.istore 7, 2) ∧ decode b_Model_breaks 34 = .ok (.iload 7, 2) ∧ decode b_Model_breaks 36 = .ok (.bipush 96, 2) ∧ decode b_Model_breaks 38 = .ok (.iload_n 2, 1) ∧ decode b_Model_breaks 39 = .ok (.iadd, 1) ∧ decode b_Model_breaks 40 = .ok (.if_icmp .lt 26, 3) ∧ decode b_Model_breaks 43 = .ok (.iload 7, 2) ∧ decode b_Model_breaks 45 = .ok (.bipush 99, 2) ∧ decode b_Model_breaks 47 = .ok (.if_icmp .ge 19, 3) ∧ decode b_Model_breaks 50 = .ok (.aload_n 0, 1) ∧ decode b_Model_breaks 51 = .ok (.getfield 27, 3) ∧ decode b_Model_breaks 54 = .ok (.iload 6, 2) ∧ decode b_Model_breaks 56 = .ok (.baload, 1) ∧ decode b_Model_breaks 57 = .ok (.bipush 16, 2) ∧ decode b_Model_breaks 59 = .ok (.if_icmp .ge 7, 3) ∧ decode b_Model_breaks 62 = .ok (.iconst 1, 1) ∧ decode b_Model_breaks 63 = .ok (.goto 4, 3) ∧ decode b_Model_breaks 66 = .ok (.iconst 0, 1) ∧ decode b_Model_breaks 67 = .ok (.istore 8, 2) ∧ decode b_Model_breaks 69 = .ok (.iload 5, 2) ∧ decode b_Model_breaks 71 = .ok (.ifCond .ne 54, 3) ∧ decode b_Model_breaks 74 = .ok (.iload 8, 2) ∧ decode b_Model_breaks 76 = .ok (.ifCond .eq 53, 3) ∧ decode b_Model_breaks 79 = .ok (.aload_n 0, 1) ∧ decode b_Model_breaks 80 = .ok (.iload_n 3, 1) ∧ decode b_Model_breaks 81 = .ok (.iload 8, 2) ∧ decode b_Model_breaks 83 = .ok (.ifCond .eq 13, 3) ∧ decode b_Model_breaks 86 = .ok (.aload_n 0, 1) ∧ decode b_Model_breaks 87 = .ok (.getfield 27, 3) ∧ decode b_Model_breaks 90 = .ok (.iload 6, 2) ∧ decode b_Model_breaks 92 = .ok (.baload, 1) ∧ decode b_Model_breaks 93 = .ok (.goto 4, 3) ∧ decode b_Model_breaks 96 = .ok (.iconst 0, 1) ∧ decode b_Model_breaks 97 = .ok (.invokevirtual 91, 3) ∧ decode b_Model_breaks 100 = .ok (.aload_n 0, 1) ∧ decode b_Model_breaks 101 = .ok (.iload 4, 2) ∧ decode b_Model_breaks 103 = .ok (.iload 8, 2) ∧ decode b_Model_breaks 105 = .ok (.ifCond .eq 13, 3) ∧ decode b_Model_breaks 108 = .ok (.aload_n 0, 1) ∧ decode b_Model_breaks 109 = .ok (.getfield 27, 3) ∧ decode b_Model_breaks 112 = .ok (.iload 6, 2) ∧ decode b_Model_breaks 114 = .ok (.baload, 1) ∧ decode b_Model_breaks 115 = .ok (.goto 4, 3) ∧ decode b_Model_breaks 118 = .ok (.iconst 0, 1) ∧ decode b_Model_breaks 119 = .ok (.invokevirtual 91, 3) ∧ decode b_Model_breaks 122 = .ok (.if_icmp .eq 7, 3) ∧ decode b_Model_breaks 125 = .ok (.iconst 1, 1) ∧ decode b_Model_breaks 126 = .ok (.goto 4, 3) ∧ decode b_Model_breaks 129 = .ok (.iconst 0, 1) ∧ decode b_Model_breaks 130 = .ok (.istore 5, 2) ∧ decode b_Model_breaks 132 = .ok (.iinc 6 1, 3) ∧ decode b_Model_breaks 135 = .ok (.goto (-126), 3) ∧ decode b_Model_breaks 138 = .ok (.iload 5, 2) ∧ decode b_Model_breaks 140 = .ok (.ireturn, 1) := ⟨by decide +kernel, by decide +kernel, by decide +kernel, by decide +kernel, by decide +kernel, by decide +kernel, by decide +kernel, by decide +kernel, by decide +kernel, by decide +kernel, by decide +kernel, by decide +kernel, by decide +kernel, by decide +kernel, by decide +kernel, by decide +kernel, by decide +kernel, by decide +kernel, by decide +kernel, by decide +kernel, by decide +kernel, by decide +kernel, by decide +kernel, by decide +kernel, by decide +kernel, by decide +kernel, by decide +kernel, by decide +kernel, by decide +kernel, by decide +kernel, by decide +kernel, by decide +kernel, by decide +kernel, by decide +kernel, by decide +kernel, by decide +kernel, by decide +kernel, by decide +kernel, by decide +kernel, by decide +kernel, by decide +kernel, by decide +kernel, by decide +kernel, by decide +kernel, by decide +kernel, by decide +kernel, by decide +kernel, by decide +kernel, by decide +kernel, by decide +kernel, by decide +kernel, by decide +kernel, by decide +kernel, by decide +kernel, by decide +kernel, by decide +kernel, by decide +kernel, by decide +kernel, by decide +kernel, by decide +kernel, by decide +kernel, by decide +kernel, by decide +kernel, by decide +kernel, by decide +kernel, by decide +kernel, by decide +kernel, by decide +kernel, by decide +kernel, by decide +kernel, by decide +kernel, by decide +kernel, by decide +kernel, by decide +kernel⟩
theorem v_Model_breaks : Cond.instanceMethod y_Model_breaks ∈ nm_Ts ∧ Cond.selects y_Model_breaks.cls y_Model_breaks y_Model_breaks ∈ nm_Ts ∧ Cond.initialized y_Model_breaks.cls ∈ nm_Ts ∧ Cond.code y_Model_breaks b_Model_breaks 9 (some .boolean) ∈ nm_Ts ∧ mz_cl1 y_Model_breaks 4 := ⟨nm_t5 66 rfl rfl, nm_s 37 rfl rfl, nm_t1 12 rfl rfl, nm_t5 67 rfl rfl, by decide +kernel⟩
def y_Model_faultOfCard : MethodName := ⟨"CardOfficeModel", "faultOfCard", "(III)I"⟩
abbrev b_Model_faultOfCard : ByteArray := prog_14_method_54_code
def r_Model_faultOfCard (c s : Nat) : Room := { frames := 4, cells := c, slots := s, locals := 100 }
theorem d_Model_faultOfCard : decode b_Model_faultOfCard 0 = .ok (.aload_n 0, 1) ∧ decode b_Model_faultOfCard 1 = .ok (.iload_n 1, 1) ∧ decode b_Model_faultOfCard 2 = .ok (.invokevirtual 197, 3) ∧ decode b_Model_faultOfCard 5 = .ok (.istore 4, 2) ∧ decode b_Model_faultOfCard 7 = .ok (.aload_n 0, 1) ∧ decode b_Model_faultOfCard 8 = .ok (.iload_n 1, 1) ∧ decode b_Model_faultOfCard 9 = .ok (.iload_n 2, 1) ∧ decode b_Model_faultOfCard 10 = .ok (.iload_n 3, 1) ∧ decode b_Model_faultOfCard 11 = .ok (.invokevirtual 200, 3) ∧ decode b_Model_faultOfCard 14 = .ok (.ifCond .ne 7, 3) ∧ decode b_Model_faultOfCard 17 = .ok (.iconst 1, 1) ∧ decode b_Model_faultOfCard 18 = .ok (.goto 4, 3) ∧ decode b_Model_faultOfCard 21 = .ok (.iconst 0, 1) ∧ decode b_Model_faultOfCard 22 = .ok (.istore 5, 2) ∧ decode b_Model_faultOfCard 24 = .ok (.iload 4, 2) ∧ decode b_Model_faultOfCard 26 = .ok (.ifCond .eq 7, 3) ∧ decode b_Model_faultOfCard 29 = .ok (.iconst 1, 1) ∧ decode b_Model_faultOfCard 30 = .ok (.goto 4, 3) ∧ decode b_Model_faultOfCard 33 = .ok (.iconst 0, 1) ∧ decode b_Model_faultOfCard 34 = .ok (.istore 6, 2) ∧ decode b_Model_faultOfCard 36 = .ok (.iconst 0, 1) ∧ decode b_Model_faultOfCard 37 = .ok (.istore 7, 2) ∧ decode b_Model_faultOfCard 39 = .ok (.iload 7, 2) ∧ decode b_Model_faultOfCard 41 = .ok (.iload_n 3, 1) ∧ decode b_Model_faultOfCard 42 = .ok (.if_icmp .ge 51, 3) ∧ decode b_Model_faultOfCard 45 = .ok (.iload 5, 2) ∧ decode b_Model_faultOfCard 47 = .ok (.ifCond .ne 13, 3) ∧ decode b_Model_faultOfCard 50 = .ok (.aload_n 0, 1) ∧ decode b_Model_faultOfCard 51 = .ok (.iload_n 1, 1) ∧ decode b_Model_faultOfCard 52 = .ok (.iload 7, 2) ∧ decode b_Model_faultOfCard 54 = .ok (.invokevirtual 203, 3) ∧ decode b_Model_faultOfCard 57 = .ok (.ifCond .eq 7, 3) ∧ decode b_Model_faultOfCard 60 = .ok (.iconst 1, 1) ∧ decode b_Model_faultOfCard 61 = .ok (.goto 4, 3) ∧ decode b_Model_faultOfCard 64 = .ok (.iconst 0, 1) ∧ decode b_Model_faultOfCard 65 = .ok (.istore 5, 2) ∧ decode b_Model_faultOfCard 67 = .ok (.iload 6, 2) ∧ decode b_Model_faultOfCard 69 = .ok (.aload_n 0, 1) ∧ decode b_Model_faultOfCard 70 = .ok (.iload_n 1, 1) ∧ decode b_Model_faultOfCard 71 = .ok (.iload 7, 2) ∧ decode b_Model_faultOfCard 73 = .ok (.invokevirtual 191, 3) ∧ decode b_Model_faultOfCard 76 = .ok (.ifCond .eq 7, 3) ∧ decode b_Model_faultOfCard 79 = .ok (.iconst 1, 1) ∧ decode b_Model_faultOfCard 80 = .ok (.goto 4, 3) ∧ decode b_Model_faultOfCard 83 = .ok (.iconst 0, 1) ∧ decode b_Model_faultOfCard 84 = .ok (.iadd, 1) ∧ decode b_Model_faultOfCard 85 = .ok (.istore 6, 2) ∧ decode b_Model_faultOfCard 87 = .ok (.iinc 7 1, 3) ∧ decode b_Model_faultOfCard 90 = .ok (.goto (-51), 3) ∧ decode b_Model_faultOfCard 93 = .ok (.iconst 0, 1) ∧ decode b_Model_faultOfCard 94 = .ok (.istore 7, 2) ∧ decode b_Model_faultOfCard 96 = .ok (.iload 7, 2) ∧ decode b_Model_faultOfCard 98 = .ok (.bipush 24, 2) ∧ decode b_Model_faultOfCard 100 = .ok (.if_icmp .ge 42, 3) ∧ decode b_Model_faultOfCard 103 = .ok (.iload 5, 2) ∧ decode b_Model_faultOfCard 105 = .ok (.ifCond .ne 24, 3) ∧ decode b_Model_faultOfCard 108 = .ok (.iload 4, 2) ∧ decode b_Model_faultOfCard 110 = .ok (.ifCond .eq 23, 3) ∧ decode b_Model_faultOfCard 113 = .ok (.aload_n 0, 1) ∧ decode b_Model_faultOfCard 114 = .ok (.iload_n 1, 1) ∧ decode b_Model_faultOfCard 115 = .ok (.bipush 32, 2) ∧ decode b_Model_faultOfCard 117 = .ok (.iload 7, 2) ∧ decode b_Model_faultOfCard 119 = .ok (.iadd, 1) ∧ decode b_Model_faultOfCard 120 = .ok (.iload_n 2, 1) ∧ decode b_Model_faultOfCard 121 = .ok (.invokevirtual 151, 3) ∧ decode b_Model_faultOfCard 124 = .ok (.bipush (-2), 2) ∧ decode b_Model_faultOfCard 126 = .ok (.if_icmp .ne 7, 3) ∧ decode b_Model_faultOfCard 129 = .ok (.iconst 1, 1) ∧ decode b_Model_faultOfCard 130 = .ok (.goto 4, 3) ∧ decode b_Model_faultOfCard 133 = .ok (.iconst 0, 1) ∧ decode b_Model_faultOfCard 134 = .ok (.istore 5, 2) ∧ decode b_Model_faultOfCard 136 = .ok (.iinc 7 1, 3) ∧ decode b_Model_faultOfCard 139 = .ok (.goto (-43), 3) ∧ decode b_Model_faultOfCard 142 = .ok (.iconst 0, 1) ∧ decode b_Model_faultOfCard 143 = .ok (.istore 7, 2) ∧ decode b_Model_faultOfCard 145 = .ok (.iconst 0, 1) ∧ decode b_Model_faultOfCard 146 = .ok (.istore 8, 2) ∧ decode b_Model_faultOfCard 148 = .ok (.iload 8, 2) ∧ decode b_Model_faultOfCard 150 = .ok (.iconst 4, 1) ∧ decode b_Model_faultOfCard 151 = .ok (.if_icmp .ge 33, 3) ∧ decode b_Model_faultOfCard 154 = .ok (.iload 7, 2) ∧ decode b_Model_faultOfCard 156 = .ok (.ifCond .ne 15, 3) ∧ decode b_Model_faultOfCard 159 = .ok (.aload_n 0, 1) ∧ decode b_Model_faultOfCard 160 = .ok (.getfield 42, 3) ∧ decode b_Model_faultOfCard 163 = .ok (.iload 8, 2) ∧ decode b_Model_faultOfCard 165 = .ok (.iaload, 1) ∧ decode b_Model_faultOfCard 166 = .ok (.ldc 206, 2) ∧ decode b_Model_faultOfCard 168 = .ok (.if_icmp .le 7, 3) ∧ decode b_Model_faultOfCard 171 = .ok (.iconst 1, 1) ∧ decode b_Model_faultOfCard 172 = .ok (.goto 4, 3) ∧ decode b_Model_faultOfCard 175 = .ok (.iconst 0, 1) ∧ decode b_Model_faultOfCard 176 = .ok (.istore 7, 2) ∧ decode b_Model_faultOfCard 178 = .ok (.iinc 8 1, 3) ∧ decode b_Model_faultOfCard 181 = .ok (.goto (-33), 3) ∧ decode b_Model_faultOfCard 184 = .ok (.iload 5, 2) ∧ decode b_Model_faultOfCard 186 = .ok (.ifCond .eq 7, 3) ∧ decode b_Model_faultOfCard 189 = .ok (.iconst 2, 1) ∧ decode b_Model_faultOfCard 190 = .ok (.goto 29, 3) ∧ decode b_Model_faultOfCard 193 = .ok (.iload 7, 2) ∧ decode b_Model_faultOfCard 195 = .ok (.ifCond .eq 7, 3) ∧ decode b_Model_faultOfCard 198 = .ok (.iconst 3, 1) ∧ decode b_Model_faultOfCard 199 = .ok (.goto 20, 3) ∧ decode b_Model_faultOfCard 202 = .ok (.aload_n 0, 1) ∧ decode b_Model_faultOfCard 203 = .ok (.getfield 188, 3) ∧ decode b_Model_faultOfCard 206 = .ok (.iload 6, 2) ∧ decode b_Model_faultOfCard 208 = .ok (.iadd, 1) ∧ decode b_Model_faultOfCard 209 = .ok (.bipush 100, 2) ∧ decode b_Model_faultOfCard 211 = .ok (.if_icmp .le 7, 3) ∧ decode b_Model_faultOfCard 214 = .ok (.iconst 4, 1) ∧ decode b_Model_faultOfCard 215 = .ok (.goto 4, 3) ∧ decode b_Model_faultOfCard 218 = .ok (.iconst 0, 1) ∧ decode b_Model_faultOfCard 219 = .ok (.ireturn, 1) := ⟨by decide +kernel, by decide +kernel, by decide +kernel, by decide +kernel, by decide +kernel, by decide +kernel, by decide +kernel, by decide +kernel, by decide +kernel, by decide +kernel, by decide +kernel, by decide +kernel, by decide +kernel, by decide +kernel, by decide +kernel, by decide +kernel, by decide +kernel, by decide +kernel, by decide +kernel, by decide +kernel, by decide +kernel, by decide +kernel, by decide +kernel, by decide +kernel, by decide +kernel, by decide +kernel, by decide +kernel, by decide +kernel, by decide +kernel, by decide +kernel, by decide +kernel, by decide +kernel, by decide +kernel, by decide +kernel, by decide +kernel, by decide +kernel, by decide +kernel, by decide +kernel, by decide +kernel, by decide +kernel, by decide +kernel, by decide +kernel, by decide +kernel, by decide +kernel, by decide +kernel, by decide +kernel, by decide +kernel, by decide +kernel, by decide +kernel, by decide +kernel, by decide +kernel, by decide +kernel, by decide +kernel, by decide +kernel, by decide +kernel, by decide +kernel, by decide +kernel, by decide +kernel, by decide +kernel, by decide +kernel, by decide +kernel, by decide +kernel, by decide +kernel, by decide +kernel, by decide +kernel, by decide +kernel, by decide +kernel, by decide +kernel, by decide +kernel, by decide +kernel, by decide +kernel, by decide +kernel, by decide +kernel, by decide +kernel, by decide +kernel, by decide +kernel, by decide +kernel, by decide +kernel, by decide +kernel, by decide +kernel, by decide +kernel, by decide +kernel, by decide +kernel, by decide +kernel, by decide +kernel, by decide +kernel, by decide +kernel, by decide +kernel, by decide +kernel, by decide +kernel, by decide +kernel, by decide +kernel, by decide +kernel, by decide +kernel, by decide +kernel, by decide +kernel, by decide +kernel, by decide +kernel, by decide +kernel, by decide +kernel, by decide +kernel, by decide +kernel, by decide +kernel, by decide +kernel, by decide +kernel, by decide +kernel, by decide +kernel, by decide +kernel, by decide +kernel, by decide +kernel, by decide +kernel, by decide +kernel⟩
theorem v_Model_faultOfCard : Cond.instanceMethod y_Model_faultOfCard ∈ nm_Ts ∧ Cond.selects y_Model_faultOfCard.cls y_Model_faultOfCard y_Model_faultOfCard ∈ nm_Ts ∧ Cond.initialized y_Model_faultOfCard.cls ∈ nm_Ts ∧ Cond.code y_Model_faultOfCard b_Model_faultOfCard 9 (some .int) ∈ nm_Ts ∧ mz_cl1 y_Model_faultOfCard 3 := ⟨nm_t5 70 rfl rfl, nm_s 38 rfl rfl, nm_t1 12 rfl rfl, nm_t5 71 rfl rfl, by decide +kernel⟩
def y_Model_isListed : MethodName := ⟨"CardOfficeModel", "isListed", "(I)Z"⟩
abbrev b_Model_isListed : ByteArray := prog_14_method_49_code
def r_Model_isListed (c s : Nat) : Room := { frames := 0, cells := c, slots := s, locals := 0 }
theorem d_Model_isListed : decode b_Model_isListed 0 = .ok (.iconst 0, 1) ∧ decode b_Model_isListed 1 = .ok (.istore_n 2, 1) ∧ decode b_Model_isListed 2 = .ok (.bipush 40, 2) ∧ decode b_Model_isListed 4 = .ok (.iload_n 1, 1) ∧ decode b_Model_isListed 5 = .ok (.imul, 1) ∧ decode b_Model_isListed 6 = .ok (.istore_n 3, 1) ∧ decode b_Model_isListed 7 = .ok (.iload_n 3, 1) ∧ decode b_Model_isListed 8 = .ok (.bipush 40, 2) ∧ decode b_Model_isListed 10 = .ok (.iload_n 1, 1) ∧ decode b_Model_isListed 11 = .ok (.imul, 1) ∧ decode b_Model_isListed 12 = .ok (.aload_n 0, 1) ∧ decode b_Model_isListed 13 = .ok (.getfield 33, 3) ∧ decode b_Model_isListed 16 = .ok (.iload_n 1, 1) ∧ decode b_Model_isListed 17 = .ok (.iaload, 1) ∧ decode b_Model_isListed 18 = .ok (.iadd, 1) ∧ decode b_Model_isListed 19 = .ok (.if_icmp .ge 30, 3) ∧ decode b_Model_isListed 22 = .ok (.iload_n 2, 1) ∧ decode b_Model_isListed 23 = .ok (.ifCond .ne 14, 3) ∧ decode b_Model_isListed 26 = .ok (.aload_n 0, 1) ∧ decode b_Model_isListed 27 = .ok (.getfield 30, 3) ∧ decode b_Model_isListed 30 = .ok (.iload_n 3, 1) ∧ decode b_Model_isListed 31 = .ok (.baload, 1) ∧ decode b_Model_isListed 32 = .ok (.bipush 99, 2) ∧ decode b_Model_isListed 34 = .ok (.if_icmp .ne 7, 3) ∧ decode b_Model_isListed 37 = .ok (.iconst 1, 1) ∧ decode b_Model_isListed 38 = .ok (.goto 4, 3) ∧ decode b_Model_isListed 41 = .ok (.iconst 0, 1) ∧ decode b_Model_isListed 42 = .ok (.istore_n 2, 1) ∧ decode b_Model_isListed 43 = .ok (.iinc 3 1, 3) ∧ decode b_Model_isListed 46 = .ok (.goto (-39), 3) ∧ decode b_Model_isListed 49 = .ok (.iload_n 2, 1) ∧ decode b_Model_isListed 50 = .ok (.ireturn, 1) := ⟨by decide +kernel, by decide +kernel, by decide +kernel, by decide +kernel, by decide +kernel, by decide +kernel, by decide +kernel, by decide +kernel, by decide +kernel, by decide +kernel, by decide +kernel, by decide +kernel, by decide +kernel, by decide +kernel, by decide +kernel, by decide +kernel, by decide +kernel, by decide +kernel, by decide +kernel, by decide +kernel, by decide +kernel, by decide +kernel, by decide +kernel, by decide +kernel, by decide +kernel, by decide +kernel, by decide +kernel, by decide +kernel, by decide +kernel, by decide +kernel, by decide +kernel, by decide +kernel⟩
theorem v_Model_isListed : Cond.instanceMethod y_Model_isListed ∈ nm_Ts ∧ Cond.selects y_Model_isListed.cls y_Model_isListed y_Model_isListed ∈ nm_Ts ∧ Cond.initialized y_Model_isListed.cls ∈ nm_Ts ∧ Cond.code y_Model_isListed b_Model_isListed 4 (some .boolean) ∈ nm_Ts ∧ mz_cl1 y_Model_isListed 1 := ⟨nm_t5 74 rfl rfl, nm_s 39 rfl rfl, nm_t1 12 rfl rfl, nm_t5 75 rfl rfl, by decide +kernel⟩
def y_Model_counts : MethodName := ⟨"CardOfficeModel", "counts", "(III)Z"⟩
abbrev b_Model_counts : ByteArray := prog_14_method_53_code
def r_Model_counts (c s : Nat) : Room := { frames := 3, cells := c, slots := s, locals := 71 }
theorem d_Model_counts : decode b_Model_counts 0 = .ok (.iconst 1, 1) ∧ decode b_Model_counts 1 = .ok (.istore 4, 2) ∧ decode b_Model_counts 3 = .ok (.iconst 0, 1) ∧ decode b_Model_counts 4 = .ok (.istore 5, 2) ∧ decode b_Model_counts 6 = .ok (.iload 5, 2) ∧ decode b_Model_counts 8 = .ok (.iconst 4, 1) ∧ decode b_Model_counts 9 = .ok (.if_icmp .ge 146, 3) ∧ decode b_Model_counts 12 = .ok (.aload_n 0, 1) ∧ decode b_Model_counts 13 = .ok (.getfield 42, 3) ∧ decode b_Model_counts 16 = .ok (.iload 5, 2) ∧ decode b_Model_counts 18 = .ok (.aload_n 0, 1) ∧ decode b_Model_counts 19 = .ok (.getfield 36, 3) ∧ decode b_Model_counts 22 = .ok (.iconst 4, 1) ∧ decode b_Model_counts 23 = .ok (.iload_n 1, 1) ∧ decode b_Model_counts 24 = .ok (.imul, 1) ∧ decode b_Model_counts 25 = .ok (.iload 5, 2) ∧ decode b_Model_counts 27 = .ok (.iadd, 1) ∧ decode b_Model_counts 28 = .ok (.iaload, 1) ∧ decode b_Model_counts 29 = .ok (.iload_n 3, 1) ∧ decode b_Model_counts 30 = .ok (.if_icmp .ge 7, 3) ∧ decode b_Model_counts 33 = .ok (.iconst 0, 1) ∧ decode b_Model_counts 34 = .ok (.goto 10, 3) ∧ decode b_Model_counts 37 = .ok (.aload_n 0, 1) ∧ decode b_Model_counts 38 = .ok (.getfield 39, 3) ∧ decode b_Model_counts 41 = .ok (.iload 5, 2) ∧ decode b_Model_counts 43 = .ok (.iaload, 1) ∧ decode b_Model_counts 44 = .ok (.iastore, 1) ∧ decode b_Model_counts 45 = .ok (.iconst 1, 1) ∧ decode b_Model_counts 46 = .ok (.istore 6, 2) ∧ decode b_Model_counts 48 = .ok (.iconst 0, 1) ∧ decode b_Model_counts 49 = .ok (.istore 7, 2) ∧ decode b_Model_counts 51 = .ok (.iload 7, 2) ∧ decode b_Model_counts 53 = .ok (.bipush 6, 2) ∧ decode b_Model_counts 55 = .ok (.if_icmp .ge 94, 3) ∧ decode b_Model_counts 58 = .ok (.aload_n 0, 1) ∧ decode b_Model_counts 59 = .ok (.iload_n 1, 1) ∧ decode b_Model_counts 60 = .ok (.bipush 64, 2) ∧ decode b_Model_counts 62 = .ok (.bipush 6, 2) ∧ decode b_Model_counts 64 = .ok (.iload 5, 2) ∧ decode b_Model_counts 66 = .ok (.imul, 1) ∧ decode b_Model_counts 67 = .ok (.iadd, 1) ∧ decode b_Model_counts 68 = .ok (.iload 7, 2) ∧ decode b_Model_counts 70 = .ok (.iadd, 1) ∧ decode b_Model_counts 71 = .ok (.iload_n 2, 1) ∧ decode b_Model_counts 72 = .ok (.invokevirtual 151, 3) ∧ decode b_Model_counts 75 = .ok (.istore 8, 2) ∧ decode b_Model_counts 77 = .ok (.iload 4, 2) ∧ decode b_Model_counts 79 = .ok (.ifCond .eq 14, 3) ∧ decode b_Model_counts 82 = .ok (.iload 8, 2) ∧ decode b_Model_counts 84 = .ok (.bipush (-2), 2) ∧ decode b_Model_counts 86 = .ok (.if_icmp .eq 7, 3) ∧ decode b_Model_counts 89 = .ok (.iconst 1, 1) ∧ decode b_Model_counts 90 = .ok (.goto 4, 3) ∧ decode b_Model_counts 93 = .ok (.iconst 0, 1) ∧ decode b_Model_counts 94 = .ok (.istore 4, 2) ∧ decode b_Model_counts 96 = .ok (.iload 8, 2) ∧ decode b_Model_counts 98 = .ok (.ifCond .ge 7, 3) ∧ decode b_Model_counts 101 = .ok (.iconst 0, 1) ∧ decode b_Model_counts 102 = .ok (.goto 8, 3) ∧ decode b_Model_counts 105 = .ok (.iload 8, 2) ∧ decode b_Model_counts 107 = .ok (.invokestatic 59, 3) ∧ decode b_Model_counts 110 = .ok (.istore 9, 2) ∧ decode b_Model_counts 112 = .ok (.aload_n 0, 1) ∧ decode b_Model_counts 113 = .ok (.getfield 42, 3) ∧ decode b_Model_counts 116 = .ok (.iload 5, 2) ∧ decode b_Model_counts 118 = .ok (.dup2, 1) ∧ decode b_Model_counts 119 = .ok (.iaload, 1) ∧ decode b_Model_counts 120 = .ok (.iload 9, 2) ∧ decode b_Model_counts 122 = .ok (.ifCond .le 11, 3) ∧ decode b_Model_counts 125 = .ok (.iload 9, 2) ∧ decode b_Model_counts 127 = .ok (.iload 6, 2) ∧ decode b_Model_counts 129 = .ok (.imul, 1) ∧ decode b_Model_counts 130 = .ok (.goto 4, 3) ∧ decode b_Model_counts 133 = .ok (.iconst 0, 1) ∧ decode b_Model_counts 134 = .ok (.iadd, 1) ∧ decode b_Model_counts 135 = .ok (.iastore, 1) ∧ decode b_Model_counts 136 = .ok (.bipush 10, 2) ∧ decode b_Model_counts 138 = .ok (.iload 6, 2) ∧ decode b_Model_counts 140 = .ok (.imul, 1) ∧ decode b_Model_counts 141 = .ok (.istore 6, 2) ∧ decode b_Model_counts 143 = .ok (.iinc 7 1, 3) ∧ decode b_Model_counts 146 = .ok (.goto (-95), 3) ∧ decode b_Model_counts 149 = .ok (.iinc 5 1, 3) ∧ decode b_Model_counts 152 = .ok (.goto (-146), 3) ∧ decode b_Model_counts 155 = .ok (.iload 4, 2) ∧ decode b_Model_counts 157 = .ok (.ireturn, 1) := ⟨by decide +kernel, by decide +kernel, by decide +kernel, by decide +kernel, by decide +kernel, by decide +kernel, by decide +kernel, by decide +kernel, by decide +kernel, by decide +kernel, by decide +kernel, by decide +kernel, by decide +kernel, by decide +kernel, by decide +kernel, by decide +kernel, by decide +kernel, by decide +kernel, by decide +kernel, by decide +kernel, by decide +kernel, by decide +kernel, by decide +kernel, by decide +kernel, by decide +kernel, by decide +kernel, by decide +kernel, by decide +kernel, by decide +kernel, by decide +kernel, by decide +kernel, by decide +kernel, by decide +kernel, by decide +kernel, by decide +kernel, by decide +kernel, by decide +kernel, by decide +kernel, by decide +kernel, by decide +kernel, by decide +kernel, by decide +kernel, by decide +kernel, by decide +kernel, by decide +kernel, by decide +kernel, by decide +kernel, by decide +kernel, by decide +kernel, by decide +kernel, by decide +kernel, by decide +kernel, by decide +kernel, by decide +kernel, by decide +kernel, by decide +kernel, by decide +kernel, by decide +kernel, by decide +kernel, by decide +kernel, by decide +kernel, by decide +kernel, by decide +kernel, by decide +kernel, by decide +kernel, by decide +kernel, by decide +kernel, by decide +kernel, by decide +kernel, by decide +kernel, by decide +kernel, by decide +kernel, by decide +kernel, by decide +kernel, by decide +kernel, by decide +kernel, by decide +kernel, by decide +kernel, by decide +kernel, by decide +kernel, by decide +kernel, by decide +kernel, by decide +kernel, by decide +kernel, by decide +kernel, by decide +kernel⟩
theorem v_Model_counts : Cond.instanceMethod y_Model_counts ∈ nm_Ts ∧ Cond.selects y_Model_counts.cls y_Model_counts y_Model_counts ∈ nm_Ts ∧ Cond.initialized y_Model_counts.cls ∈ nm_Ts ∧ Cond.code y_Model_counts b_Model_counts 10 (some .boolean) ∈ nm_Ts ∧ mz_cl1 y_Model_counts 3 := ⟨nm_t5 78 rfl rfl, nm_s 40 rfl rfl, nm_t1 12 rfl rfl, nm_t5 79 rfl rfl, by decide +kernel⟩
def y_Model_clashes : MethodName := ⟨"CardOfficeModel", "clashes", "(II)Z"⟩
abbrev b_Model_clashes : ByteArray := prog_14_method_50_code
def r_Model_clashes (c s : Nat) : Room := { frames := 2, cells := c, slots := s, locals := 52 }
theorem d_Model_clashes : decode b_Model_clashes 0 = .ok (.iconst 0, 1) ∧ decode b_Model_clashes 1 = .ok (.istore_n 3, 1) ∧ decode b_Model_clashes 2 = .ok (.iconst 0, 1) ∧ decode b_Model_clashes 3 = .ok (.istore 4, 2) ∧ decode b_Model_clashes 5 = .ok (.iload 4, 2) ∧ decode b_Model_clashes 7 = .ok (.bipush 24, 2) ∧ decode b_Model_clashes 9 = .ok (.if_icmp .ge 32, 3) ∧ decode b_Model_clashes 12 = .ok (.iload_n 3, 1) ∧ decode b_Model_clashes 13 = .ok (.ifCond .ne 16, 3) ∧ decode b_Model_clashes 16 = .ok (.aload_n 0, 1) ∧ decode b_Model_clashes 17 = .ok (.iload_n 1, 1) ∧ decode b_Model_clashes 18 = .ok (.iload_n 2, 1) ∧ decode b_Model_clashes 19 = .ok (.iload 4, 2) ∧ decode b_Model_clashes 21 = .ok (.invokevirtual 185, 3) ∧ decode b_Model_clashes 24 = .ok (.bipush (-2), 2) ∧ decode b_Model_clashes 26 = .ok (.if_icmp .ne 7, 3) ∧ decode b_Model_clashes 29 = .ok (.iconst 1, 1) ∧ decode b_Model_clashes 30 = .ok (.goto 4, 3) ∧ decode b_Model_clashes 33 = .ok (.iconst 0, 1) ∧ decode b_Model_clashes 34 = .ok (.istore_n 3, 1) ∧ decode b_Model_clashes 35 = .ok (.iinc 4 1, 3) ∧ decode b_Model_clashes 38 = .ok (.goto (-33), 3) ∧ decode b_Model_clashes 41 = .ok (.iload_n 3, 1) ∧ decode b_Model_clashes 42 = .ok (.ireturn, 1) := ⟨by decide +kernel, by decide +kernel, by decide +kernel, by decide +kernel, by decide +kernel, by decide +kernel, by decide +kernel, by decide +kernel, by decide +kernel, by decide +kernel, by decide +kernel, by decide +kernel, by decide +kernel, by decide +kernel, by decide +kernel, by decide +kernel, by decide +kernel, by decide +kernel, by decide +kernel, by decide +kernel, by decide +kernel, by decide +kernel, by decide +kernel, by decide +kernel⟩
theorem v_Model_clashes : Cond.instanceMethod y_Model_clashes ∈ nm_Ts ∧ Cond.selects y_Model_clashes.cls y_Model_clashes y_Model_clashes ∈ nm_Ts ∧ Cond.initialized y_Model_clashes.cls ∈ nm_Ts ∧ Cond.code y_Model_clashes b_Model_clashes 5 (some .boolean) ∈ nm_Ts ∧ mz_cl1 y_Model_clashes 2 := ⟨nm_t5 82 rfl rfl, nm_s 41 rfl rfl, nm_t1 12 rfl rfl, nm_t5 83 rfl rfl, by decide +kernel⟩
def y_Model_totals : MethodName := ⟨"CardOfficeModel", "totals", "(III)I"⟩
abbrev b_Model_totals : ByteArray := prog_14_method_48_code
def r_Model_totals (c s : Nat) : Room := { frames := 1, cells := c, slots := s, locals := 24 }
theorem d_Model_totals : decode b_Model_totals 0 = .ok (.iconst (-1), 1) ∧ decode b_Model_totals 1 = .ok (.istore 4, 2) ∧ decode b_Model_totals 3 = .ok (.bipush 40, 2) ∧ decode b_Model_totals 5 = .ok (.iload_n 1, 1) ∧ decode b_Model_totals 6 = .ok (.imul, 1) ∧ decode b_Model_totals 7 = .ok (.istore 5, 2) ∧ decode b_Model_totals 9 = .ok (.iload 5, 2) ∧ decode b_Model_totals 11 = .ok (.bipush 40, 2) ∧ decode b_Model_totals 13 = .ok (.iload_n 1, 1) ∧ decode b_Model_totals 14 = .ok (.imul, 1) ∧ decode b_Model_totals 15 = .ok (.aload_n 0, 1) ∧ decode b_Model_totals 16 = .ok (.getfield 33, 3) ∧ decode b_Model_totals 19 = .ok (.iload_n 1, 1) ∧ decode b_Model_totals 20 = .ok (.iaload, 1) ∧ decode b_Model_totals 21 = .ok (.iadd, 1) ∧ decode b_Model_totals 22 = .ok (.if_icmp .ge 145, 3) ∧ decode b_Model_totals 25 = .ok (.aload_n 0, 1) ∧ decode b_Model_totals 26 = .ok (.getfield 27, 3) ∧ decode b_Model_totals 29 = .ok (.iload 5, 2) ∧ decode b_Model_totals 31 = .ok (.baload, 1) ∧ decode b_Model_totals 32 = .ok (.bipush 32, 2) ∧ decode b_Model_totals 34 = .ok (.isub, 1) ∧ decode b_Model_totals 35 = .ok (.istore 6, 2) ∧ decode b_Model_totals 37 = .ok (.aload_n 0, 1) ∧ decode b_Model_totals 38 = .ok (.getfield 30, 3) ∧ decode b_Model_totals 41 = .ok (.iload 5, 2) ∧ decode b_Model_totals 43 = .ok (.baload, 1) ∧ decode b_Model_totals 44 = .ok (.bipush 32, 2) ∧ decode b_Model_totals 46 = .ok (.iload_n 3, 1) ∧ decode b_Model_totals 47 = .ok (.iadd, 1) ∧ decode b_Model_totals 48 = .ok (.if_icmp .ne 39, 3) ∧ decode b_Model_totals 51 = .ok (.iload 6, 2) ∧ decode b_Model_totals 53 = .ok (.ifCond .lt 34, 3) ∧ decode b_Model_totals 56 = .ok (.aload_n 0, 1) ∧ decode b_Model_totals 57 = .ok (.getfield 36, 3) ∧ decode b_Model_totals 60 = .ok (.iconst 4, 1) ∧ decode b_Model_totals 61 = .ok (.iload_n 1, 1) ∧ decode b_Model_totals 62 = .ok (.imul, 1) ∧ decode b_Model_totals 63 = .ok (.iload 6, 2) ∧ decode b_Model_totals 65 = .ok (.ifCond .ge 7, 3) ∧ decode b_Model_totals 68 = .ok (.iconst 0, 1) ∧ decode b_Model_totals 69 = .ok (.goto 8, 3) ∧ decode b_Model_totals 72 = .ok (.iload 6, 2) ∧ decode b_Model_totals 74 = .ok (.bipush 6, 2) ∧ decode b_Model_totals 76 = .ok (.idiv, 1) ∧ decode b_Model_totals 77 = .ok (.iadd, 1) ∧ decode b_Model_totals 78 = .ok (.iaload, 1) ∧ decode b_Model_totals 79 = .ok (.iload_n 2, 1) ∧ decode b_Model_totals 80 = .ok (.if_icmp .ne 7, 3) ∧ decode b_Model_totals 83 = .ok (.iconst 1, 1) ∧ decode b_Model_totals 84 = .ok (.goto 4, 3) ∧ decode b_Model_totals 87 = .ok (.iconst 0, 1) ∧ decode b_Model_totals 88 = .ok (.istore 7, 2) ∧ decode b_Model_totals 90 = .ok (.iload 7, 2) ∧ decode b_Model_totals 92 = .ok (.ifCond .eq 34, 3) ∧ decode b_Model_totals 95 = .ok (.aload_n 0, 1) ∧ decode b_Model_totals 96 = .ok (.aload_n 0, 1) ∧ decode b_Model_totals 97 = .ok (.getfield 39, 3) ∧ decode b_Model_totals 100 = .ok (.iload 6, 2) ∧ decode b_Model_totals 102 = .ok (.ifCond .ge 7, 3) ∧ decode b_Model_totals 105 = .ok (.iconst 0, 1) ∧ decode b_Model_totals 106 = .ok (.goto 8, 3) ∧ decode b_Model_totals 109 = .ok (.iload 6, 2) ∧ decode b_Model_totals 111 = .ok (.bipush 6, 2) ∧ decode b_Model_totals 113 = .ok (.idiv, 1) ∧ decode b_Model_totals 114 = .ok (.iaload, 1) ∧ decode b_Model_totals 115 = .ok (.iload 6, 2) ∧ decode b_Model_totals 117 = .ok (.bipush 6, 2) ∧ decode b_Model_totals 119 = .ok (.irem, 1) ∧ decode b_Model_totals 120 = .ok (.invokevirtual 182, 3) ∧ decode b_Model_totals 123 = .ok (.goto 4, 3) ∧ decode b_Model_totals 126 = .ok (.iconst (-1), 1) ∧ decode b_Model_totals 127 = .ok (.istore 8, 2) ∧ decode b_Model_totals 129 = .ok (.iload 8, 2) ∧ decode b_Model_totals 131 = .ok (.ifCond .lt 10, 3) ∧ decode b_Model_totals 134 = .ok (.iload 8, 2) ∧ decode b_Model_totals 136 = .ok (.iload 4, 2) ∧ decode b_Model_totals 138 = .ok (.if_icmp .ne 8, 3) ∧ decode b_Model_totals 141 = .ok (.iload 4, 2) ∧ decode b_Model_totals 143 = .ok (.goto 16, 3) ∧ decode b_Model_totals 146 = .ok (.iload 4, 2) ∧ decode b_Model_totals 148 = .ok (.iconst (-1), 1) ∧ decode b_Model_totals 149 = .ok (.if_icmp .ne 8, 3) ∧ decode b_Model_totals 152 = .ok (.iload 8, 2) ∧ decode b_Model_totals 154 = .ok (.goto 5, 3) ∧ decode b_Model_totals 157 = .ok (.bipush (-2), 2) ∧ decode b_Model_totals 159 = .ok (.istore 4, 2) ∧ decode b_Model_totals 161 = .ok (.iinc 5 1, 3) ∧ decode b_Model_totals 164 = .ok (.goto (-155), 3) ∧ decode b_Model_totals 167 = .ok (.iload 4, 2) ∧ decode b_Model_totals 169 = .ok (.ireturn, 1) := ⟨by decide +kernel, by decide +kernel, by decide +kernel, by decide +kernel, by decide +kernel, by decide +kernel, by decide +kernel, by decide +kernel, by decide +kernel, by decide +kernel, by decide +kernel, by decide +kernel, by decide +kernel, by decide +kernel, by decide +kernel, by decide +kernel, by decide +kernel, by decide +kernel, by decide +kernel, by decide +kernel, by decide +kernel, by decide +kernel, by decide +kernel, by decide +kernel, by decide +kernel, by decide +kernel, by decide +kernel, by decide +kernel, by decide +kernel, by decide +kernel, by decide +kernel, by decide +kernel, by decide +kernel, by decide +kernel, by decide +kernel, by decide +kernel, by decide +kernel, by decide +kernel, by decide +kernel, by decide +kernel, by decide +kernel, by decide +kernel, by decide +kernel, by decide +kernel, by decide +kernel, by decide +kernel, by decide +kernel, by decide +kernel, by decide +kernel, by decide +kernel, by decide +kernel, by decide +kernel, by decide +kernel, by decide +kernel, by decide +kernel, by decide +kernel, by decide +kernel, by decide +kernel, by decide +kernel, by decide +kernel, by decide +kernel, by decide +kernel, by decide +kernel, by decide +kernel, by decide +kernel, by decide +kernel, by decide +kernel, by decide +kernel, by decide +kernel, by decide +kernel, by decide +kernel, by decide +kernel, by decide +kernel, by decide +kernel, by decide +kernel, by decide +kernel, by decide +kernel, by decide +kernel, by decide +kernel, by decide +kernel, by decide +kernel, by decide +kernel, by decide +kernel, by decide +kernel, by decide +kernel, by decide +kernel, by decide +kernel, by decide +kernel, by decide +kernel, by decide +kernel, by decide +kernel⟩
theorem v_Model_totals : Cond.instanceMethod y_Model_totals ∈ nm_Ts ∧ Cond.selects y_Model_totals.cls y_Model_totals y_Model_totals ∈ nm_Ts ∧ Cond.initialized y_Model_totals.cls ∈ nm_Ts ∧ Cond.code y_Model_totals b_Model_totals 9 (some .int) ∈ nm_Ts ∧ mz_cl1 y_Model_totals 3 := ⟨nm_t5 86 rfl rfl, nm_s 42 rfl rfl, nm_t1 12 rfl rfl, nm_t5 87 rfl rfl, by decide +kernel⟩
def y_Model_wheel : MethodName := ⟨"CardOfficeModel", "wheel", "(II)I"⟩
abbrev b_Model_wheel : ByteArray := prog_14_method_47_code
def r_Model_wheel (c s : Nat) : Room := { frames := 0, cells := c, slots := s, locals := 0 }
theorem d_Model_wheel : decode b_Model_wheel 0 = .ok (.iload_n 1, 1) ∧ decode b_Model_wheel 1 = .ok (.istore_n 3, 1) ∧ decode b_Model_wheel 2 = .ok (.iconst 0, 1) ∧ decode b_Model_wheel 3 = .ok (.istore 4, 2) ∧ decode b_Model_wheel 5 = .ok (.iload 4, 2) ∧ decode b_Model_wheel 7 = .ok (.iload_n 2, 1) ∧ decode b_Model_wheel 8 = .ok (.if_icmp .ge 14, 3) ∧ decode b_Model_wheel 11 = .ok (.iload_n 3, 1) ∧ decode b_Model_wheel 12 = .ok (.bipush 10, 2) ∧ decode b_Model_wheel 14 = .ok (.idiv, 1) ∧ decode b_Model_wheel 15 = .ok (.istore_n 3, 1) ∧ decode b_Model_wheel 16 = .ok (.iinc 4 1, 3) ∧ decode b_Model_wheel 19 = .ok (.goto (-14), 3) ∧ decode b_Model_wheel 22 = .ok (.iload_n 3, 1) ∧ decode b_Model_wheel 23 = .ok (.ifCond .ne 12, 3) ∧ decode b_Model_wheel 26 = .ok (.iload_n 2, 1) ∧ decode b_Model_wheel 27 = .ok (.ifCond .le 8, 3) ∧ decode b_Model_wheel 30 = .ok (.bipush 32, 2) ∧ decode b_Model_wheel 32 = .ok (.goto 10, 3) ∧ decode b_Model_wheel 35 = .ok (.bipush 48, 2) ∧ decode b_Model_wheel 37 = .ok (.iload_n 3, 1) ∧ decode b_Model_wheel 38 = .ok (.bipush 10, 2) ∧ decode b_Model_wheel 40 = .ok (.irem, 1) ∧ decode b_Model_wheel 41 = .ok (.iadd, 1) ∧ decode b_Model_wheel 42 = .ok (.ireturn, 1) := ⟨by decide +kernel, by decide +kernel, by decide +kernel, by decide +kernel, by decide +kernel, by decide +kernel, by decide +kernel, by decide +kernel, by decide +kernel, by decide +kernel, by decide +kernel, by decide +kernel, by decide +kernel, by decide +kernel, by decide +kernel, by decide +kernel, by decide +kernel, by decide +kernel, by decide +kernel, by decide +kernel, by decide +kernel, by decide +kernel, by decide +kernel, by decide +kernel, by decide +kernel⟩
theorem v_Model_wheel : Cond.instanceMethod y_Model_wheel ∈ nm_Ts ∧ Cond.selects y_Model_wheel.cls y_Model_wheel y_Model_wheel ∈ nm_Ts ∧ Cond.initialized y_Model_wheel.cls ∈ nm_Ts ∧ Cond.code y_Model_wheel b_Model_wheel 5 (some .int) ∈ nm_Ts ∧ mz_cl1 y_Model_wheel 2 := ⟨nm_t5 90 rfl rfl, nm_s 43 rfl rfl, nm_t1 12 rfl rfl, nm_t5 91 rfl rfl, by decide +kernel⟩
def y_Model_hasLevel : MethodName := ⟨"CardOfficeModel", "hasLevel", "(II)Z"⟩
abbrev b_Model_hasLevel : ByteArray := prog_14_method_46_code
def r_Model_hasLevel (c s : Nat) : Room := { frames := 0, cells := c, slots := s, locals := 0 }
theorem d_Model_hasLevel : decode b_Model_hasLevel 0 = .ok (.iconst 0, 1) ∧ decode b_Model_hasLevel 1 = .ok (.istore_n 3, 1) ∧ decode b_Model_hasLevel 2 = .ok (.iconst 0, 1) ∧ decode b_Model_hasLevel 3 = .ok (.istore 4, 2) ∧ decode b_Model_hasLevel 5 = .ok (.iload 4, 2) ∧ decode b_Model_hasLevel 7 = .ok (.iconst 4, 1) ∧ decode b_Model_hasLevel 8 = .ok (.if_icmp .ge 34, 3) ∧ decode b_Model_hasLevel 11 = .ok (.iload_n 3, 1) ∧ decode b_Model_hasLevel 12 = .ok (.ifCond .ne 18, 3) ∧ decode b_Model_hasLevel 15 = .ok (.aload_n 0, 1) ∧ decode b_Model_hasLevel 16 = .ok (.getfield 36, 3) ∧ decode b_Model_hasLevel 19 = .ok (.iconst 4, 1) ∧ decode b_Model_hasLevel 20 = .ok (.iload_n 1, 1) ∧ decode b_Model_hasLevel 21 = .ok (.imul, 1) ∧ decode b_Model_hasLevel 22 = .ok (.iload 4, 2) ∧ decode b_Model_hasLevel 24 = .ok (.iadd, 1) ∧ decode b_Model_hasLevel 25 = .ok (.iaload, 1) ∧ decode b_Model_hasLevel 26 = .ok (.iload_n 2, 1) ∧ decode b_Model_hasLevel 27 = .ok (.if_icmp .ne 7, 3) ∧ decode b_Model_hasLevel 30 = .ok (.iconst 1, 1) ∧ decode b_Model_hasLevel 31 = .ok (.goto 4, 3) ∧ decode b_Model_hasLevel 34 = .ok (.iconst 0, 1) ∧ decode b_Model_hasLevel 35 = .ok (.istore_n 3, 1) ∧ decode b_Model_hasLevel 36 = .ok (.iinc 4 1, 3) ∧ decode b_Model_hasLevel 39 = .ok (.goto (-34), 3) ∧ decode b_Model_hasLevel 42 = .ok (.iload_n 3, 1) ∧ decode b_Model_hasLevel 43 = .ok (.ireturn, 1) := ⟨by decide +kernel, by decide +kernel, by decide +kernel, by decide +kernel, by decide +kernel, by decide +kernel, by decide +kernel, by decide +kernel, by decide +kernel, by decide +kernel, by decide +kernel, by decide +kernel, by decide +kernel, by decide +kernel, by decide +kernel, by decide +kernel, by decide +kernel, by decide +kernel, by decide +kernel, by decide +kernel, by decide +kernel, by decide +kernel, by decide +kernel, by decide +kernel, by decide +kernel, by decide +kernel, by decide +kernel⟩
theorem v_Model_hasLevel : Cond.instanceMethod y_Model_hasLevel ∈ nm_Ts ∧ Cond.selects y_Model_hasLevel.cls y_Model_hasLevel y_Model_hasLevel ∈ nm_Ts ∧ Cond.initialized y_Model_hasLevel.cls ∈ nm_Ts ∧ Cond.code y_Model_hasLevel b_Model_hasLevel 5 (some .boolean) ∈ nm_Ts ∧ mz_cl1 y_Model_hasLevel 2 := ⟨nm_t5 94 rfl rfl, nm_s 44 rfl rfl, nm_t1 12 rfl rfl, nm_t5 95 rfl rfl, by decide +kernel⟩
def y_Model_tabulateCard : MethodName := ⟨"CardOfficeModel", "tabulateCard", "(III)V"⟩
abbrev b_Model_tabulateCard : ByteArray := prog_14_method_55_code
def r_Model_tabulateCard (c s : Nat) : Room := { frames := 3, cells := c, slots := s, locals := 75 }
theorem d_Model_tabulateCard : decode b_Model_tabulateCard 0 = .ok (.iconst 0, 1) ∧ decode b_Model_tabulateCard 1 = .ok (.istore 4, 2) ∧ decode b_Model_tabulateCard 3 = .ok (.iload 4, 2) ∧ decode b_Model_tabulateCard 5 = .ok (.iload_n 3, 1) ∧ decode b_Model_tabulateCard 6 = .ok (.if_icmp .ge 16, 3) ∧ decode b_Model_tabulateCard 9 = .ok (.aload_n 0, 1) ∧ decode b_Model_tabulateCard 10 = .ok (.iload_n 1, 1) ∧ decode b_Model_tabulateCard 11 = .ok (.iload 4, 2) ∧ decode b_Model_tabulateCard 13 = .ok (.invokevirtual 207, 3) ∧ decode b_Model_tabulateCard 16 = .ok (.iinc 4 1, 3) ∧ decode b_Model_tabulateCard 19 = .ok (.goto (-16), 3) ∧ decode b_Model_tabulateCard 22 = .ok (.aload_n 0, 1) ∧ decode b_Model_tabulateCard 23 = .ok (.iload_n 1, 1) ∧ decode b_Model_tabulateCard 24 = .ok (.invokevirtual 197, 3) ∧ decode b_Model_tabulateCard 27 = .ok (.ifCond .eq 46, 3) ∧ decode b_Model_tabulateCard 30 = .ok (.iconst 0, 1) ∧ decode b_Model_tabulateCard 31 = .ok (.istore 4, 2) ∧ decode b_Model_tabulateCard 33 = .ok (.iload 4, 2) ∧ decode b_Model_tabulateCard 35 = .ok (.bipush 24, 2) ∧ decode b_Model_tabulateCard 37 = .ok (.if_icmp .ge 26, 3) ∧ decode b_Model_tabulateCard 40 = .ok (.aload_n 0, 1) ∧ decode b_Model_tabulateCard 41 = .ok (.iload 4, 2) ∧ decode b_Model_tabulateCard 43 = .ok (.aload_n 0, 1) ∧ decode b_Model_tabulateCard 44 = .ok (.iload_n 1, 1) ∧ decode b_Model_tabulateCard 45 = .ok (.bipush 32, 2) ∧ decode b_Model_tabulateCard 47 = .ok (.iload 4, 2) ∧ decode b_Model_tabulateCard 49 = .ok (.iadd, 1) ∧ decode b_Model_tabulateCard 50 = .ok (.iload_n 2, 1) ∧ decode b_Model_tabulateCard 51 = .ok (.invokevirtual 151, 3) ∧ decode b_Model_tabulateCard 54 = .ok (.invokevirtual 194, 3) ∧ decode b_Model_tabulateCard 57 = .ok (.iinc 4 1, 3) ∧ decode b_Model_tabulateCard 60 = .ok (.goto (-27), 3) ∧ decode b_Model_tabulateCard 63 = .ok (.aload_n 0, 1) ∧ decode b_Model_tabulateCard 64 = .ok (.dup, 1) ∧ decode b_Model_tabulateCard 65 = .ok (.getfield 188, 3) ∧ decode b_Model_tabulateCard 68 = .ok (.iconst 1, 1) ∧ decode b_Model_tabulateCard 69 = .ok (.iadd, 1) ∧ decode b_Model_tabulateCard 70 = .ok (.putfield 188, 3) ∧ decode b_Model_tabulateCard 73 = .ok (.iconst 0, 1) ∧ decode b_Model_tabulateCard 74 = .ok (.istore 4, 2) ∧ decode b_Model_tabulateCard 76 = .ok (.iload 4, 2) ∧ decode b_Model_tabulateCard 78 = .ok (.iconst 4, 1) ∧ decode b_Model_tabulateCard 79 = .ok (.if_icmp .ge 23, 3) ∧ decode b_Model_tabulateCard 82 = .ok (.aload_n 0, 1) ∧ decode b_Model_tabulateCard 83 = .ok (.getfield 39, 3) ∧ decode b_Model_tabulateCard 86 = .ok (.iload 4, 2) ∧ decode b_Model_tabulateCard 88 = .ok (.aload_n 0, 1) ∧ decode b_Model_tabulateCard 89 = .ok (.getfield 42, 3) ∧ decode b_Model_tabulateCard 92 = .ok (.iload 4, 2) ∧ decode b_Model_tabulateCard 94 = .ok (.iaload, 1) ∧ decode b_Model_tabulateCard 95 = .ok (.iastore, 1) ∧ decode b_Model_tabulateCard 96 = .ok (.iinc 4 1, 3) ∧ decode b_Model_tabulateCard 99 = .ok (.goto (-23), 3) ∧ decode b_Model_tabulateCard 102 = .ok (.return_, 1) := ⟨by decide +kernel, by decide +kernel, by decide +kernel, by decide +kernel, by decide +kernel, by decide +kernel, by decide +kernel, by decide +kernel, by decide +kernel, by decide +kernel, by decide +kernel, by decide +kernel, by decide +kernel, by decide +kernel, by decide +kernel, by decide +kernel, by decide +kernel, by decide +kernel, by decide +kernel, by decide +kernel, by decide +kernel, by decide +kernel, by decide +kernel, by decide +kernel, by decide +kernel, by decide +kernel, by decide +kernel, by decide +kernel, by decide +kernel, by decide +kernel, by decide +kernel, by decide +kernel, by decide +kernel, by decide +kernel, by decide +kernel, by decide +kernel, by decide +kernel, by decide +kernel, by decide +kernel, by decide +kernel, by decide +kernel, by decide +kernel, by decide +kernel, by decide +kernel, by decide +kernel, by decide +kernel, by decide +kernel, by decide +kernel, by decide +kernel, by decide +kernel, by decide +kernel, by decide +kernel, by decide +kernel, by decide +kernel⟩
theorem v_Model_tabulateCard : Cond.instanceMethod y_Model_tabulateCard ∈ nm_Ts ∧ Cond.selects y_Model_tabulateCard.cls y_Model_tabulateCard y_Model_tabulateCard ∈ nm_Ts ∧ Cond.initialized y_Model_tabulateCard.cls ∈ nm_Ts ∧ Cond.code y_Model_tabulateCard b_Model_tabulateCard 5 none ∈ nm_Ts ∧ mz_cl1 y_Model_tabulateCard 3 := ⟨nm_t5 99 rfl rfl, nm_s 45 rfl rfl, nm_t1 12 rfl rfl, nm_t5 100 rfl rfl, by decide +kernel⟩
def y_Model_total : MethodName := ⟨"CardOfficeModel", "total", "(II)V"⟩
abbrev b_Model_total : ByteArray := prog_14_method_52_code
def r_Model_total (c s : Nat) : Room := { frames := 2, cells := c, slots := s, locals := 52 }
theorem d_Model_total : decode b_Model_total 0 = .ok (.aload_n 0, 1) ∧ decode b_Model_total 1 = .ok (.iload_n 1, 1) ∧ decode b_Model_total 2 = .ok (.iload_n 2, 1) ∧ decode b_Model_total 3 = .ok (.invokevirtual 191, 3) ∧ decode b_Model_total 6 = .ok (.ifCond .ne 4, 3) ∧ decode b_Model_total 9 = .ok (.return_, 1) ∧ decode b_Model_total 10 = .ok (.iconst 0, 1) ∧ decode b_Model_total 11 = .ok (.istore_n 3, 1) ∧ decode b_Model_total 12 = .ok (.iload_n 3, 1) ∧ decode b_Model_total 13 = .ok (.bipush 24, 2) ∧ decode b_Model_total 15 = .ok (.if_icmp .ge 21, 3) ∧ decode b_Model_total 18 = .ok (.aload_n 0, 1) ∧ decode b_Model_total 19 = .ok (.iload_n 3, 1) ∧ decode b_Model_total 20 = .ok (.aload_n 0, 1) ∧ decode b_Model_total 21 = .ok (.iload_n 1, 1) ∧ decode b_Model_total 22 = .ok (.iload_n 2, 1) ∧ decode b_Model_total 23 = .ok (.iload_n 3, 1) ∧ decode b_Model_total 24 = .ok (.invokevirtual 185, 3) ∧ decode b_Model_total 27 = .ok (.invokevirtual 194, 3) ∧ decode b_Model_total 30 = .ok (.iinc 3 1, 3) ∧ decode b_Model_total 33 = .ok (.goto (-21), 3) ∧ decode b_Model_total 36 = .ok (.aload_n 0, 1) ∧ decode b_Model_total 37 = .ok (.dup, 1) ∧ decode b_Model_total 38 = .ok (.getfield 188, 3) ∧ decode b_Model_total 41 = .ok (.iconst 1, 1) ∧ decode b_Model_total 42 = .ok (.iadd, 1) ∧ decode b_Model_total 43 = .ok (.putfield 188, 3) ∧ decode b_Model_total 46 = .ok (.iconst 0, 1) ∧ decode b_Model_total 47 = .ok (.istore_n 3, 1) ∧ decode b_Model_total 48 = .ok (.iload_n 3, 1) ∧ decode b_Model_total 49 = .ok (.iconst 4, 1) ∧ decode b_Model_total 50 = .ok (.if_icmp .ge 39, 3) ∧ decode b_Model_total 53 = .ok (.aload_n 0, 1) ∧ decode b_Model_total 54 = .ok (.getfield 39, 3) ∧ decode b_Model_total 57 = .ok (.iload_n 3, 1) ∧ decode b_Model_total 58 = .ok (.aload_n 0, 1) ∧ decode b_Model_total 59 = .ok (.getfield 36, 3) ∧ decode b_Model_total 62 = .ok (.iconst 4, 1) ∧ decode b_Model_total 63 = .ok (.iload_n 1, 1) ∧ decode b_Model_total 64 = .ok (.imul, 1) ∧ decode b_Model_total 65 = .ok (.iload_n 3, 1) ∧ decode b_Model_total 66 = .ok (.iadd, 1) ∧ decode b_Model_total 67 = .ok (.iaload, 1) ∧ decode b_Model_total 68 = .ok (.iload_n 2, 1) ∧ decode b_Model_total 69 = .ok (.if_icmp .ne 7, 3) ∧ decode b_Model_total 72 = .ok (.iconst 0, 1) ∧ decode b_Model_total 73 = .ok (.goto 9, 3) ∧ decode b_Model_total 76 = .ok (.aload_n 0, 1) ∧ decode b_Model_total 77 = .ok (.getfield 39, 3) ∧ decode b_Model_total 80 = .ok (.iload_n 3, 1) ∧ decode b_Model_total 81 = .ok (.iaload, 1) ∧ decode b_Model_total 82 = .ok (.iastore, 1) ∧ decode b_Model_total 83 = .ok (.iinc 3 1, 3) ∧ decode b_Model_total 86 = .ok (.goto (-38), 3) ∧ decode b_Model_total 89 = .ok (.return_, 1) := ⟨by decide +kernel, by decide +kernel, by decide +kernel, by decide +kernel, by decide +kernel, by decide +kernel, by decide +kernel, by decide +kernel, by decide +kernel, by decide +kernel, by decide +kernel, by decide +kernel, by decide +kernel, by decide +kernel, by decide +kernel, by decide +kernel, by decide +kernel, by decide +kernel, by decide +kernel, by decide +kernel, by decide +kernel, by decide +kernel, by decide +kernel, by decide +kernel, by decide +kernel, by decide +kernel, by decide +kernel, by decide +kernel, by decide +kernel, by decide +kernel, by decide +kernel, by decide +kernel, by decide +kernel, by decide +kernel, by decide +kernel, by decide +kernel, by decide +kernel, by decide +kernel, by decide +kernel, by decide +kernel, by decide +kernel, by decide +kernel, by decide +kernel, by decide +kernel, by decide +kernel, by decide +kernel, by decide +kernel, by decide +kernel, by decide +kernel, by decide +kernel, by decide +kernel, by decide +kernel, by decide +kernel, by decide +kernel, by decide +kernel⟩
theorem v_Model_total : Cond.instanceMethod y_Model_total ∈ nm_Ts ∧ Cond.selects y_Model_total.cls y_Model_total y_Model_total ∈ nm_Ts ∧ Cond.initialized y_Model_total.cls ∈ nm_Ts ∧ Cond.code y_Model_total b_Model_total 4 none ∈ nm_Ts ∧ mz_cl1 y_Model_total 2 := ⟨nm_t5 103 rfl rfl, nm_s 46 rfl rfl, nm_t1 12 rfl rfl, nm_t5 104 rfl rfl, by decide +kernel⟩
def y_Model_print : MethodName := ⟨"CardOfficeModel", "print", "(II)V"⟩
abbrev b_Model_print : ByteArray := prog_14_method_51_code
def r_Model_print (c s : Nat) : Room := { frames := 0, cells := c, slots := s, locals := 0 }
theorem d_Model_print : decode b_Model_print 0 = .ok (.aload_n 0, 1) ∧ decode b_Model_print 1 = .ok (.getfield 45, 3) ∧ decode b_Model_print 4 = .ok (.bipush 24, 2) ∧ decode b_Model_print 6 = .ok (.aload_n 0, 1) ∧ decode b_Model_print 7 = .ok (.getfield 188, 3) ∧ decode b_Model_print 10 = .ok (.imul, 1) ∧ decode b_Model_print 11 = .ok (.iload_n 1, 1) ∧ decode b_Model_print 12 = .ok (.iadd, 1) ∧ decode b_Model_print 13 = .ok (.iload_n 2, 1) ∧ decode b_Model_print 14 = .ok (.ifCond .ge 8, 3) ∧ decode b_Model_print 17 = .ok (.bipush 32, 2) ∧ decode b_Model_print 19 = .ok (.goto 4, 3) ∧ decode b_Model_print 22 = .ok (.iload_n 2, 1) ∧ decode b_Model_print 23 = .ok (.i2b, 1) ∧ decode b_Model_print 24 = .ok (.bastore, 1) ∧ decode b_Model_print 25 = .ok (.return_, 1) := ⟨by decide +kernel, by decide +kernel, by decide +kernel, by decide +kernel, by decide +kernel, by decide +kernel, by decide +kernel, by decide +kernel, by decide +kernel, by decide +kernel, by decide +kernel, by decide +kernel, by decide +kernel, by decide +kernel, by decide +kernel, by decide +kernel⟩
theorem v_Model_print : Cond.instanceMethod y_Model_print ∈ nm_Ts ∧ Cond.selects y_Model_print.cls y_Model_print y_Model_print ∈ nm_Ts ∧ Cond.initialized y_Model_print.cls ∈ nm_Ts ∧ Cond.code y_Model_print b_Model_print 3 none ∈ nm_Ts ∧ mz_cl1 y_Model_print 2 := ⟨nm_t5 107 rfl rfl, nm_s 47 rfl rfl, nm_t1 12 rfl rfl, nm_t5 108 rfl rfl, by decide +kernel⟩
def y_Model_faultOfEnd : MethodName := ⟨"CardOfficeModel", "faultOfEnd", "(I)I"⟩
abbrev b_Model_faultOfEnd : ByteArray := prog_14_method_56_code
def r_Model_faultOfEnd (c s : Nat) : Room := { frames := 3, cells := c, slots := s, locals := 76 }
theorem d_Model_faultOfEnd : decode b_Model_faultOfEnd 0 = .ok (.iconst 0, 1) ∧ decode b_Model_faultOfEnd 1 = .ok (.istore_n 2, 1) ∧ decode b_Model_faultOfEnd 2 = .ok (.iconst 0, 1) ∧ decode b_Model_faultOfEnd 3 = .ok (.istore_n 3, 1) ∧ decode b_Model_faultOfEnd 4 = .ok (.iconst 0, 1) ∧ decode b_Model_faultOfEnd 5 = .ok (.istore 4, 2) ∧ decode b_Model_faultOfEnd 7 = .ok (.iload 4, 2) ∧ decode b_Model_faultOfEnd 9 = .ok (.iconst 4, 1) ∧ decode b_Model_faultOfEnd 10 = .ok (.if_icmp .ge 47, 3) ∧ decode b_Model_faultOfEnd 13 = .ok (.iload_n 2, 1) ∧ decode b_Model_faultOfEnd 14 = .ok (.ifCond .ne 13, 3) ∧ decode b_Model_faultOfEnd 17 = .ok (.aload_n 0, 1) ∧ decode b_Model_faultOfEnd 18 = .ok (.iload_n 1, 1) ∧ decode b_Model_faultOfEnd 19 = .ok (.iload 4, 2) ∧ decode b_Model_faultOfEnd 21 = .ok (.invokevirtual 203, 3) ∧ decode b_Model_faultOfEnd 24 = .ok (.ifCond .eq 7, 3) ∧ decode b_Model_faultOfEnd 27 = .ok (.iconst 1, 1) ∧ decode b_Model_faultOfEnd 28 = .ok (.goto 4, 3) ∧ decode b_Model_faultOfEnd 31 = .ok (.iconst 0, 1) ∧ decode b_Model_faultOfEnd 32 = .ok (.istore_n 2, 1) ∧ decode b_Model_faultOfEnd 33 = .ok (.iload_n 3, 1) ∧ decode b_Model_faultOfEnd 34 = .ok (.aload_n 0, 1) ∧ decode b_Model_faultOfEnd 35 = .ok (.iload_n 1, 1) ∧ decode b_Model_faultOfEnd 36 = .ok (.iload 4, 2) ∧ decode b_Model_faultOfEnd 38 = .ok (.invokevirtual 191, 3) ∧ decode b_Model_faultOfEnd 41 = .ok (.ifCond .eq 7, 3) ∧ decode b_Model_faultOfEnd 44 = .ok (.iconst 1, 1) ∧ decode b_Model_faultOfEnd 45 = .ok (.goto 4, 3) ∧ decode b_Model_faultOfEnd 48 = .ok (.iconst 0, 1) ∧ decode b_Model_faultOfEnd 49 = .ok (.iadd, 1) ∧ decode b_Model_faultOfEnd 50 = .ok (.istore_n 3, 1) ∧ decode b_Model_faultOfEnd 51 = .ok (.iinc 4 1, 3) ∧ decode b_Model_faultOfEnd 54 = .ok (.goto (-47), 3) ∧ decode b_Model_faultOfEnd 57 = .ok (.iload_n 2, 1) ∧ decode b_Model_faultOfEnd 58 = .ok (.ifCond .eq 7, 3) ∧ decode b_Model_faultOfEnd 61 = .ok (.iconst 2, 1) ∧ decode b_Model_faultOfEnd 62 = .ok (.goto 19, 3) ∧ decode b_Model_faultOfEnd 65 = .ok (.aload_n 0, 1) ∧ decode b_Model_faultOfEnd 66 = .ok (.getfield 188, 3) ∧ decode b_Model_faultOfEnd 69 = .ok (.iload_n 3, 1) ∧ decode b_Model_faultOfEnd 70 = .ok (.iadd, 1) ∧ decode b_Model_faultOfEnd 71 = .ok (.bipush 100, 2) ∧ decode b_Model_faultOfEnd 73 = .ok (.if_icmp .le 7, 3) ∧ decode b_Model_faultOfEnd 76 = .ok (.iconst 4, 1) ∧ decode b_Model_faultOfEnd 77 = .ok (.goto 4, 3) ∧ decode b_Model_faultOfEnd 80 = .ok (.iconst 0, 1) ∧ decode b_Model_faultOfEnd 81 = .ok (.ireturn, 1) := ⟨by decide +kernel, by decide +kernel, by decide +kernel, by decide +kernel, by decide +kernel, by decide +kernel, by decide +kernel, by decide +kernel, by decide +kernel, by decide +kernel, by decide +kernel, by decide +kernel, by decide +kernel, by decide +kernel, by decide +kernel, by decide +kernel, by decide +kernel, by decide +kernel, by decide +kernel, by decide +kernel, by decide +kernel, by decide +kernel, by decide +kernel, by decide +kernel, by decide +kernel, by decide +kernel, by decide +kernel, by decide +kernel, by decide +kernel, by decide +kernel, by decide +kernel, by decide +kernel, by decide +kernel, by decide +kernel, by decide +kernel, by decide +kernel, by decide +kernel, by decide +kernel, by decide +kernel, by decide +kernel, by decide +kernel, by decide +kernel, by decide +kernel, by decide +kernel, by decide +kernel, by decide +kernel, by decide +kernel⟩
theorem v_Model_faultOfEnd : Cond.instanceMethod y_Model_faultOfEnd ∈ nm_Ts ∧ Cond.selects y_Model_faultOfEnd.cls y_Model_faultOfEnd y_Model_faultOfEnd ∈ nm_Ts ∧ Cond.initialized y_Model_faultOfEnd.cls ∈ nm_Ts ∧ Cond.code y_Model_faultOfEnd b_Model_faultOfEnd 5 (some .int) ∈ nm_Ts ∧ mz_cl1 y_Model_faultOfEnd 1 := ⟨nm_t5 111 rfl rfl, nm_s 48 rfl rfl, nm_t1 12 rfl rfl, nm_t5 112 rfl rfl, by decide +kernel⟩
def y_Model_cut : MethodName := ⟨"CardOfficeModel", "cut", "(III)Z"⟩
abbrev b_Model_cut : ByteArray := prog_14_method_58_code
def r_Model_cut (c s : Nat) : Room := { frames := 1, cells := c, slots := s, locals := 22 }
theorem d_Model_cut : decode b_Model_cut 0 = .ok (.aload_n 0, 1) ∧ decode b_Model_cut 1 = .ok (.iconst 0, 1) ∧ decode b_Model_cut 2 = .ok (.putfield 52, 3) ∧ decode b_Model_cut 5 = .ok (.iload_n 1, 1) ∧ decode b_Model_cut 6 = .ok (.invokestatic 65, 3) ∧ decode b_Model_cut 9 = .ok (.ifCond .eq 29, 3) ∧ decode b_Model_cut 12 = .ok (.iload_n 3, 1) ∧ decode b_Model_cut 13 = .ok (.invokestatic 65, 3) ∧ decode b_Model_cut 16 = .ok (.ifCond .eq 22, 3) ∧ decode b_Model_cut 19 = .ok (.iload_n 1, 1) ∧ decode b_Model_cut 20 = .ok (.iload_n 3, 1) ∧ decode b_Model_cut 21 = .ok (.if_icmp .eq 17, 3) ∧ decode b_Model_cut 24 = .ok (.iload_n 2, 1) ∧ decode b_Model_cut 25 = .ok (.ifCond .lt 13, 3) ∧ decode b_Model_cut 28 = .ok (.iload_n 2, 1) ∧ decode b_Model_cut 29 = .ok (.aload_n 0, 1) ∧ decode b_Model_cut 30 = .ok (.getfield 17, 3) ∧ decode b_Model_cut 33 = .ok (.iload_n 1, 1) ∧ decode b_Model_cut 34 = .ok (.iaload, 1) ∧ decode b_Model_cut 35 = .ok (.if_icmp .le 5, 3) ∧ decode b_Model_cut 38 = .ok (.iconst 0, 1) ∧ decode b_Model_cut 39 = .ok (.ireturn, 1) ∧ decode b_Model_cut 40 = .ok (.iconst 0, 1) ∧ decode b_Model_cut 41 = .ok (.istore 4, 2) ∧ decode b_Model_cut 43 = .ok (.iload 4, 2) ∧ decode b_Model_cut 45 = .ok (.iload_n 2, 1) ∧ decode b_Model_cut 46 = .ok (.if_icmp .ge 21, 3) ∧ decode b_Model_cut 49 = .ok (.aload_n 0, 1) ∧ decode b_Model_cut 50 = .ok (.iload_n 3, 1) ∧ decode b_Model_cut 51 = .ok (.aload_n 0, 1) ∧ decode b_Model_cut 52 = .ok (.iload_n 1, 1) ∧ decode b_Model_cut 53 = .ok (.iload 4, 2) ∧ decode b_Model_cut 55 = .ok (.invokevirtual 98, 3) ∧ decode b_Model_cut 58 = .ok (.invokevirtual 78, 3) ∧ decode b_Model_cut 61 = .ok (.iinc 4 1, 3) ∧ decode b_Model_cut 64 = .ok (.goto (-21), 3) ∧ decode b_Model_cut 67 = .ok (.aload_n 0, 1) ∧ decode b_Model_cut 68 = .ok (.getfield 17, 3) ∧ decode b_Model_cut 71 = .ok (.iload_n 1, 1) ∧ decode b_Model_cut 72 = .ok (.dup2, 1) ∧ decode b_Model_cut 73 = .ok (.iaload, 1) ∧ decode b_Model_cut 74 = .ok (.iload_n 2, 1) ∧ decode b_Model_cut 75 = .ok (.isub, 1) ∧ decode b_Model_cut 76 = .ok (.iastore, 1) ∧ decode b_Model_cut 77 = .ok (.iconst 0, 1) ∧ decode b_Model_cut 78 = .ok (.istore 4, 2) ∧ decode b_Model_cut 80 = .ok (.iload 4, 2) ∧ decode b_Model_cut 82 = .ok (.aload_n 0, 1) ∧ decode b_Model_cut 83 = .ok (.getfield 17, 3) ∧ decode b_Model_cut 86 = .ok (.iload_n 1, 1) ∧ decode b_Model_cut 87 = .ok (.iaload, 1) ∧ decode b_Model_cut 88 = .ok (.if_icmp .ge 37, 3) ∧ decode b_Model_cut 91 = .ok (.aload_n 0, 1) ∧ decode b_Model_cut 92 = .ok (.getfield 13, 3) ∧ decode b_Model_cut 95 = .ok (.sipush 200, 3) ∧ decode b_Model_cut 98 = .ok (.iload_n 1, 1) ∧ decode b_Model_cut 99 = .ok (.imul, 1) ∧ decode b_Model_cut 100 = .ok (.iload 4, 2) ∧ decode b_Model_cut 102 = .ok (.iadd, 1) ∧ decode b_Model_cut 103 = .ok (.aload_n 0, 1) ∧ decode b_Model_cut 104 = .ok (.getfield 13, 3) ∧ decode b_Model_cut 107 = .ok (.sipush 200, 3) ∧ decode b_Model_cut 110 = .ok (.iload_n 1, 1) ∧ decode b_Model_cut 111 = .ok (.imul, 1) ∧ decode b_Model_cut 112 = .ok (.iload 4, 2) ∧ decode b_Model_cut 114 = .ok (.iadd, 1) ∧ decode b_Model_cut 115 = .ok (.iload_n 2, 1) ∧ decode b_Model_cut 116 = .ok (.iadd, 1) ∧ decode b_Model_cut 117 = .ok (.saload, 1) ∧ decode b_Model_cut 118 = .ok (.sastore, 1) ∧ decode b_Model_cut 119 = .ok (.iinc 4 1, 3) ∧ decode b_Model_cut 122 = .ok (.goto (-42), 3) ∧ decode b_Model_cut 125 = .ok (.iconst 1, 1) ∧ decode b_Model_cut 126 = .ok (.ireturn, 1) := ⟨by decide +kernel, by decide +kernel, by decide +kernel, by decide +kernel, by decide +kernel, by decide +kernel, by decide +kernel, by decide +kernel, by decide +kernel, by decide +kernel, by decide +kernel, by decide +kernel, by decide +kernel, by decide +kernel, by decide +kernel, by decide +kernel, by decide +kernel, by decide +kernel, by decide +kernel, by decide +kernel, by decide +kernel, by decide +kernel, by decide +kernel, by decide +kernel, by decide +kernel, by decide +kernel, by decide +kernel, by decide +kernel, by decide +kernel, by decide +kernel, by decide +kernel, by decide +kernel, by decide +kernel, by decide +kernel, by decide +kernel, by decide +kernel, by decide +kernel, by decide +kernel, by decide +kernel, by decide +kernel, by decide +kernel, by decide +kernel, by decide +kernel, by decide +kernel, by decide +kernel, by decide +kernel, by decide +kernel, by decide +kernel, by decide +kernel, by decide +kernel, by decide +kernel, by decide +kernel, by decide +kernel, by decide +kernel, by decide +kernel, by decide +kernel, by decide +kernel, by decide +kernel, by decide +kernel, by decide +kernel, by decide +kernel, by decide +kernel, by decide +kernel, by decide +kernel, by decide +kernel, by decide +kernel, by decide +kernel, by decide +kernel, by decide +kernel, by decide +kernel, by decide +kernel, by decide +kernel, by decide +kernel, by decide +kernel⟩
theorem v_Model_cut : Cond.instanceMethod y_Model_cut ∈ nm_Ts ∧ Cond.selects y_Model_cut.cls y_Model_cut y_Model_cut ∈ nm_Ts ∧ Cond.initialized y_Model_cut.cls ∈ nm_Ts ∧ Cond.code y_Model_cut b_Model_cut 5 (some .boolean) ∈ nm_Ts ∧ mz_cl1 y_Model_cut 3 := ⟨nm_t5 114 rfl rfl, nm_t5 115 rfl rfl, nm_t1 12 rfl rfl, nm_t5 116 rfl rfl, by decide +kernel⟩
def y_Model_sign : MethodName := ⟨"CardOfficeModel", "sign", "(III)I"⟩
abbrev b_Model_sign : ByteArray := prog_14_method_59_code
def r_Model_sign (c s : Nat) : Room := { frames := 1, cells := c, slots := s, locals := 22 }
theorem d_Model_sign : decode b_Model_sign 0 = .ok (.iload_n 1, 1) ∧ decode b_Model_sign 1 = .ok (.invokestatic 65, 3) ∧ decode b_Model_sign 4 = .ok (.ifCond .eq 18, 3) ∧ decode b_Model_sign 7 = .ok (.iload_n 2, 1) ∧ decode b_Model_sign 8 = .ok (.ifCond .lt 14, 3) ∧ decode b_Model_sign 11 = .ok (.iload_n 3, 1) ∧ decode b_Model_sign 12 = .ok (.invokestatic 108, 3) ∧ decode b_Model_sign 15 = .ok (.ifCond .eq 7, 3) ∧ decode b_Model_sign 18 = .ok (.iconst 1, 1) ∧ decode b_Model_sign 19 = .ok (.goto 4, 3) ∧ decode b_Model_sign 22 = .ok (.iconst 0, 1) ∧ decode b_Model_sign 23 = .ok (.istore 4, 2) ∧ decode b_Model_sign 25 = .ok (.aload_n 0, 1) ∧ decode b_Model_sign 26 = .ok (.iload 4, 2) ∧ decode b_Model_sign 28 = .ok (.ifCond .eq 26, 3) ∧ decode b_Model_sign 31 = .ok (.iload_n 2, 1) ∧ decode b_Model_sign 32 = .ok (.aload_n 0, 1) ∧ decode b_Model_sign 33 = .ok (.getfield 17, 3) ∧ decode b_Model_sign 36 = .ok (.iload 4, 2) ∧ decode b_Model_sign 38 = .ok (.ifCond .eq 7, 3) ∧ decode b_Model_sign 41 = .ok (.iload_n 1, 1) ∧ decode b_Model_sign 42 = .ok (.goto 4, 3) ∧ decode b_Model_sign 45 = .ok (.iconst 0, 1) ∧ decode b_Model_sign 46 = .ok (.iaload, 1) ∧ decode b_Model_sign 47 = .ok (.if_icmp .ge 7, 3) ∧ decode b_Model_sign 50 = .ok (.iconst 0, 1) ∧ decode b_Model_sign 51 = .ok (.goto 4, 3) ∧ decode b_Model_sign 54 = .ok (.iconst 1, 1) ∧ decode b_Model_sign 55 = .ok (.putfield 52, 3) ∧ decode b_Model_sign 58 = .ok (.aload_n 0, 1) ∧ decode b_Model_sign 59 = .ok (.getfield 52, 3) ∧ decode b_Model_sign 62 = .ok (.ifCond .le 7, 3) ∧ decode b_Model_sign 65 = .ok (.iconst 0, 1) ∧ decode b_Model_sign 66 = .ok (.goto 14, 3) ∧ decode b_Model_sign 69 = .ok (.aload_n 0, 1) ∧ decode b_Model_sign 70 = .ok (.aload_n 0, 1) ∧ decode b_Model_sign 71 = .ok (.iload_n 1, 1) ∧ decode b_Model_sign 72 = .ok (.iload_n 2, 1) ∧ decode b_Model_sign 73 = .ok (.invokevirtual 98, 3) ∧ decode b_Model_sign 76 = .ok (.iload_n 3, 1) ∧ decode b_Model_sign 77 = .ok (.invokevirtual 91, 3) ∧ decode b_Model_sign 80 = .ok (.ireturn, 1) := ⟨by decide +kernel, by decide +kernel, by decide +kernel, by decide +kernel, by decide +kernel, by decide +kernel, by decide +kernel, by decide +kernel, by decide +kernel, by decide +kernel, by decide +kernel, by decide +kernel, by decide +kernel, by decide +kernel, by decide +kernel, by decide +kernel, by decide +kernel, by decide +kernel, by decide +kernel, by decide +kernel, by decide +kernel, by decide +kernel, by decide +kernel, by decide +kernel, by decide +kernel, by decide +kernel, by decide +kernel, by decide +kernel, by decide +kernel, by decide +kernel, by decide +kernel, by decide +kernel, by decide +kernel, by decide +kernel, by decide +kernel, by decide +kernel, by decide +kernel, by decide +kernel, by decide +kernel, by decide +kernel, by decide +kernel, by decide +kernel⟩
theorem v_Model_sign : Cond.instanceMethod y_Model_sign ∈ nm_Ts ∧ Cond.selects y_Model_sign.cls y_Model_sign y_Model_sign ∈ nm_Ts ∧ Cond.initialized y_Model_sign.cls ∈ nm_Ts ∧ Cond.code y_Model_sign b_Model_sign 5 (some .int) ∈ nm_Ts ∧ mz_cl1 y_Model_sign 3 := ⟨nm_t5 118 rfl rfl, nm_t5 119 rfl rfl, nm_t1 12 rfl rfl, nm_t5 120 rfl rfl, by decide +kernel⟩
def y_Model_printed : MethodName := ⟨"CardOfficeModel", "printed", "(II)I"⟩
abbrev b_Model_printed : ByteArray := prog_14_method_60_code
def r_Model_printed (c s : Nat) : Room := { frames := 0, cells := c, slots := s, locals := 0 }
theorem d_Model_printed : decode b_Model_printed 0 = .ok (.aload_n 0, 1) ∧ decode b_Model_printed 1 = .ok (.iload_n 1, 1) ∧ decode b_Model_printed 2 = .ok (.ifCond .lt 25, 3) ∧ decode b_Model_printed 5 = .ok (.iload_n 1, 1) ∧ decode b_Model_printed 6 = .ok (.aload_n 0, 1) ∧ decode b_Model_printed 7 = .ok (.getfield 188, 3) ∧ decode b_Model_printed 10 = .ok (.if_icmp .ge 17, 3) ∧ decode b_Model_printed 13 = .ok (.iload_n 2, 1) ∧ decode b_Model_printed 14 = .ok (.ifCond .lt 13, 3) ∧ decode b_Model_printed 17 = .ok (.iload_n 2, 1) ∧ decode b_Model_printed 18 = .ok (.bipush 24, 2) ∧ decode b_Model_printed 20 = .ok (.if_icmp .ge 7, 3) ∧ decode b_Model_printed 23 = .ok (.iconst 0, 1) ∧ decode b_Model_printed 24 = .ok (.goto 4, 3) ∧ decode b_Model_printed 27 = .ok (.iconst 1, 1) ∧ decode b_Model_printed 28 = .ok (.putfield 52, 3) ∧ decode b_Model_printed 31 = .ok (.aload_n 0, 1) ∧ decode b_Model_printed 32 = .ok (.getfield 52, 3) ∧ decode b_Model_printed 35 = .ok (.ifCond .le 7, 3) ∧ decode b_Model_printed 38 = .ok (.iconst 0, 1) ∧ decode b_Model_printed 39 = .ok (.goto 14, 3) ∧ decode b_Model_printed 42 = .ok (.aload_n 0, 1) ∧ decode b_Model_printed 43 = .ok (.getfield 45, 3) ∧ decode b_Model_printed 46 = .ok (.bipush 24, 2) ∧ decode b_Model_printed 48 = .ok (.iload_n 1, 1) ∧ decode b_Model_printed 49 = .ok (.imul, 1) ∧ decode b_Model_printed 50 = .ok (.iload_n 2, 1) ∧ decode b_Model_printed 51 = .ok (.iadd, 1) ∧ decode b_Model_printed 52 = .ok (.baload, 1) ∧ decode b_Model_printed 53 = .ok (.ireturn, 1) := ⟨by decide +kernel, by decide +kernel, by decide +kernel, by decide +kernel, by decide +kernel, by decide +kernel, by decide +kernel, by decide +kernel, by decide +kernel, by decide +kernel, by decide +kernel, by decide +kernel, by decide +kernel, by decide +kernel, by decide +kernel, by decide +kernel, by decide +kernel, by decide +kernel, by decide +kernel, by decide +kernel, by decide +kernel, by decide +kernel, by decide +kernel, by decide +kernel, by decide +kernel, by decide +kernel, by decide +kernel, by decide +kernel, by decide +kernel, by decide +kernel⟩
theorem v_Model_printed : Cond.instanceMethod y_Model_printed ∈ nm_Ts ∧ Cond.selects y_Model_printed.cls y_Model_printed y_Model_printed ∈ nm_Ts ∧ Cond.initialized y_Model_printed.cls ∈ nm_Ts ∧ Cond.code y_Model_printed b_Model_printed 3 (some .int) ∈ nm_Ts ∧ mz_cl1 y_Model_printed 2 := ⟨nm_t5 122 rfl rfl, nm_t5 123 rfl rfl, nm_t1 12 rfl rfl, nm_t5 124 rfl rfl, by decide +kernel⟩
def y_Model_counter : MethodName := ⟨"CardOfficeModel", "counter", "(I)I"⟩
abbrev b_Model_counter : ByteArray := prog_14_method_61_code
def r_Model_counter (c s : Nat) : Room := { frames := 0, cells := c, slots := s, locals := 0 }
theorem d_Model_counter : decode b_Model_counter 0 = .ok (.aload_n 0, 1) ∧ decode b_Model_counter 1 = .ok (.iload_n 1, 1) ∧ decode b_Model_counter 2 = .ok (.ifCond .lt 12, 3) ∧ decode b_Model_counter 5 = .ok (.iload_n 1, 1) ∧ decode b_Model_counter 6 = .ok (.iconst 4, 1) ∧ decode b_Model_counter 7 = .ok (.if_icmp .ge 7, 3) ∧ decode b_Model_counter 10 = .ok (.iconst 0, 1) ∧ decode b_Model_counter 11 = .ok (.goto 4, 3) ∧ decode b_Model_counter 14 = .ok (.iconst 1, 1) ∧ decode b_Model_counter 15 = .ok (.putfield 52, 3) ∧ decode b_Model_counter 18 = .ok (.aload_n 0, 1) ∧ decode b_Model_counter 19 = .ok (.getfield 52, 3) ∧ decode b_Model_counter 22 = .ok (.ifCond .le 7, 3) ∧ decode b_Model_counter 25 = .ok (.iconst 0, 1) ∧ decode b_Model_counter 26 = .ok (.goto 9, 3) ∧ decode b_Model_counter 29 = .ok (.aload_n 0, 1) ∧ decode b_Model_counter 30 = .ok (.getfield 39, 3) ∧ decode b_Model_counter 33 = .ok (.iload_n 1, 1) ∧ decode b_Model_counter 34 = .ok (.iaload, 1) ∧ decode b_Model_counter 35 = .ok (.ireturn, 1) := ⟨by decide +kernel, by decide +kernel, by decide +kernel, by decide +kernel, by decide +kernel, by decide +kernel, by decide +kernel, by decide +kernel, by decide +kernel, by decide +kernel, by decide +kernel, by decide +kernel, by decide +kernel, by decide +kernel, by decide +kernel, by decide +kernel, by decide +kernel, by decide +kernel, by decide +kernel, by decide +kernel⟩
theorem v_Model_counter : Cond.instanceMethod y_Model_counter ∈ nm_Ts ∧ Cond.selects y_Model_counter.cls y_Model_counter y_Model_counter ∈ nm_Ts ∧ Cond.initialized y_Model_counter.cls ∈ nm_Ts ∧ Cond.code y_Model_counter b_Model_counter 2 (some .int) ∈ nm_Ts ∧ mz_cl1 y_Model_counter 1 := ⟨nm_t5 126 rfl rfl, nm_t5 127 rfl rfl, nm_t1 12 rfl rfl, nm_t5 128 rfl rfl, by decide +kernel⟩
def y_Model_tear : MethodName := ⟨"CardOfficeModel", "tear", "()I"⟩
abbrev b_Model_tear : ByteArray := prog_14_method_62_code
def r_Model_tear (c s : Nat) : Room := { frames := 0, cells := c, slots := s, locals := 0 }
theorem d_Model_tear : decode b_Model_tear 0 = .ok (.aload_n 0, 1) ∧ decode b_Model_tear 1 = .ok (.iconst 0, 1) ∧ decode b_Model_tear 2 = .ok (.putfield 52, 3) ∧ decode b_Model_tear 5 = .ok (.aload_n 0, 1) ∧ decode b_Model_tear 6 = .ok (.getfield 188, 3) ∧ decode b_Model_tear 9 = .ok (.istore_n 1, 1) ∧ decode b_Model_tear 10 = .ok (.aload_n 0, 1) ∧ decode b_Model_tear 11 = .ok (.iconst 0, 1) ∧ decode b_Model_tear 12 = .ok (.putfield 188, 3) ∧ decode b_Model_tear 15 = .ok (.iload_n 1, 1) ∧ decode b_Model_tear 16 = .ok (.ireturn, 1) := ⟨by decide +kernel, by decide +kernel, by decide +kernel, by decide +kernel, by decide +kernel, by decide +kernel, by decide +kernel, by decide +kernel, by decide +kernel, by decide +kernel, by decide +kernel⟩
theorem v_Model_tear : Cond.instanceMethod y_Model_tear ∈ nm_Ts ∧ Cond.selects y_Model_tear.cls y_Model_tear y_Model_tear ∈ nm_Ts ∧ Cond.initialized y_Model_tear.cls ∈ nm_Ts ∧ Cond.code y_Model_tear b_Model_tear 2 (some .int) ∈ nm_Ts ∧ mz_cl1 y_Model_tear 0 := ⟨nm_t5 130 rfl rfl, nm_t5 131 rfl rfl, nm_t1 12 rfl rfl, nm_t5 132 rfl rfl, by decide +kernel⟩
def y_Model_fault : MethodName := ⟨"CardOfficeModel", "fault", "(I)I"⟩
abbrev b_Model_fault : ByteArray := prog_14_method_63_code
def r_Model_fault (c s : Nat) : Room := { frames := 0, cells := c, slots := s, locals := 0 }
theorem d_Model_fault : decode b_Model_fault 0 = .ok (.aload_n 0, 1) ∧ decode b_Model_fault 1 = .ok (.iconst 0, 1) ∧ decode b_Model_fault 2 = .ok (.putfield 52, 3) ∧ decode b_Model_fault 5 = .ok (.iload_n 1, 1) ∧ decode b_Model_fault 6 = .ok (.ifCond .ne 10, 3) ∧ decode b_Model_fault 9 = .ok (.aload_n 0, 1) ∧ decode b_Model_fault 10 = .ok (.getfield 148, 3) ∧ decode b_Model_fault 13 = .ok (.goto 16, 3) ∧ decode b_Model_fault 16 = .ok (.iload_n 1, 1) ∧ decode b_Model_fault 17 = .ok (.iconst 1, 1) ∧ decode b_Model_fault 18 = .ok (.if_icmp .ne 10, 3) ∧ decode b_Model_fault 21 = .ok (.aload_n 0, 1) ∧ decode b_Model_fault 22 = .ok (.getfield 48, 3) ∧ decode b_Model_fault 25 = .ok (.goto 4, 3) ∧ decode b_Model_fault 28 = .ok (.iconst (-1), 1) ∧ decode b_Model_fault 29 = .ok (.ireturn, 1) := ⟨by decide +kernel, by decide +kernel, by decide +kernel, by decide +kernel, by decide +kernel, by decide +kernel, by decide +kernel, by decide +kernel, by decide +kernel, by decide +kernel, by decide +kernel, by decide +kernel, by decide +kernel, by decide +kernel, by decide +kernel, by decide +kernel⟩
theorem v_Model_fault : Cond.instanceMethod y_Model_fault ∈ nm_Ts ∧ Cond.selects y_Model_fault.cls y_Model_fault y_Model_fault ∈ nm_Ts ∧ Cond.initialized y_Model_fault.cls ∈ nm_Ts ∧ Cond.code y_Model_fault b_Model_fault 2 (some .int) ∈ nm_Ts ∧ mz_cl1 y_Model_fault 1 := ⟨nm_t5 134 rfl rfl, nm_t5 135 rfl rfl, nm_t1 12 rfl rfl, nm_t5 136 rfl rfl, by decide +kernel⟩
def y_Model_count : MethodName := ⟨"CardOfficeModel", "count", "(I)I"⟩
abbrev b_Model_count : ByteArray := prog_14_method_64_code
def r_Model_count (c s : Nat) : Room := { frames := 0, cells := c, slots := s, locals := 0 }
theorem d_Model_count : decode b_Model_count 0 = .ok (.aload_n 0, 1) ∧ decode b_Model_count 1 = .ok (.iconst 0, 1) ∧ decode b_Model_count 2 = .ok (.putfield 52, 3) ∧ decode b_Model_count 5 = .ok (.iload_n 1, 1) ∧ decode b_Model_count 6 = .ok (.ifCond .lt 16, 3) ∧ decode b_Model_count 9 = .ok (.iload_n 1, 1) ∧ decode b_Model_count 10 = .ok (.bipush 8, 2) ∧ decode b_Model_count 12 = .ok (.if_icmp .ge 10, 3) ∧ decode b_Model_count 15 = .ok (.aload_n 0, 1) ∧ decode b_Model_count 16 = .ok (.getfield 17, 3) ∧ decode b_Model_count 19 = .ok (.iload_n 1, 1) ∧ decode b_Model_count 20 = .ok (.iaload, 1) ∧ decode b_Model_count 21 = .ok (.ireturn, 1) ∧ decode b_Model_count 22 = .ok (.iload_n 1, 1) ∧ decode b_Model_count 23 = .ok (.bipush 10, 2) ∧ decode b_Model_count 25 = .ok (.if_icmp .lt 19, 3) ∧ decode b_Model_count 28 = .ok (.iload_n 1, 1) ∧ decode b_Model_count 29 = .ok (.bipush 14, 2) ∧ decode b_Model_count 31 = .ok (.if_icmp .ge 13, 3) ∧ decode b_Model_count 34 = .ok (.aload_n 0, 1) ∧ decode b_Model_count 35 = .ok (.getfield 33, 3) ∧ decode b_Model_count 38 = .ok (.iload_n 1, 1) ∧ decode b_Model_count 39 = .ok (.bipush 10, 2) ∧ decode b_Model_count 41 = .ok (.isub, 1) ∧ decode b_Model_count 42 = .ok (.iaload, 1) ∧ decode b_Model_count 43 = .ok (.ireturn, 1) ∧ decode b_Model_count 44 = .ok (.iload_n 1, 1) ∧ decode b_Model_count 45 = .ok (.bipush 8, 2) ∧ decode b_Model_count 47 = .ok (.if_icmp .ne 10, 3) ∧ decode b_Model_count 50 = .ok (.aload_n 0, 1) ∧ decode b_Model_count 51 = .ok (.getfield 62, 3) ∧ decode b_Model_count 54 = .ok (.goto 43, 3) ∧ decode b_Model_count 57 = .ok (.iload_n 1, 1) ∧ decode b_Model_count 58 = .ok (.bipush 9, 2) ∧ decode b_Model_count 60 = .ok (.if_icmp .ne 10, 3) ∧ decode b_Model_count 63 = .ok (.aload_n 0, 1) ∧ decode b_Model_count 64 = .ok (.getfield 188, 3) ∧ decode b_Model_count 67 = .ok (.goto 30, 3) ∧ decode b_Model_count 70 = .ok (.iload_n 1, 1) ∧ decode b_Model_count 71 = .ok (.bipush 14, 2) ∧ decode b_Model_count 73 = .ok (.if_icmp .ne 10, 3) ∧ decode b_Model_count 76 = .ok (.aload_n 0, 1) ∧ decode b_Model_count 77 = .ok (.getfield 105, 3) ∧ decode b_Model_count 80 = .ok (.goto 17, 3) ∧ decode b_Model_count 83 = .ok (.iload_n 1, 1) ∧ decode b_Model_count 84 = .ok (.bipush 15, 2) ∧ decode b_Model_count 86 = .ok (.if_icmp .ne 10, 3) ∧ decode b_Model_count 89 = .ok (.aload_n 0, 1) ∧ decode b_Model_count 90 = .ok (.getfield 133, 3) ∧ decode b_Model_count 93 = .ok (.goto 4, 3) ∧ decode b_Model_count 96 = .ok (.iconst (-1), 1) ∧ decode b_Model_count 97 = .ok (.ireturn, 1) := ⟨by decide +kernel, by decide +kernel, by decide +kernel, by decide +kernel, by decide +kernel, by decide +kernel, by decide +kernel, by decide +kernel, by decide +kernel, by decide +kernel, by decide +kernel, by decide +kernel, by decide +kernel, by decide +kernel, by decide +kernel, by decide +kernel, by decide +kernel, by decide +kernel, by decide +kernel, by decide +kernel, by decide +kernel, by decide +kernel, by decide +kernel, by decide +kernel, by decide +kernel, by decide +kernel, by decide +kernel, by decide +kernel, by decide +kernel, by decide +kernel, by decide +kernel, by decide +kernel, by decide +kernel, by decide +kernel, by decide +kernel, by decide +kernel, by decide +kernel, by decide +kernel, by decide +kernel, by decide +kernel, by decide +kernel, by decide +kernel, by decide +kernel, by decide +kernel, by decide +kernel, by decide +kernel, by decide +kernel, by decide +kernel, by decide +kernel, by decide +kernel, by decide +kernel, by decide +kernel⟩
theorem v_Model_count : Cond.instanceMethod y_Model_count ∈ nm_Ts ∧ Cond.selects y_Model_count.cls y_Model_count y_Model_count ∈ nm_Ts ∧ Cond.initialized y_Model_count.cls ∈ nm_Ts ∧ Cond.code y_Model_count b_Model_count 2 (some .int) ∈ nm_Ts ∧ mz_cl1 y_Model_count 1 := ⟨nm_t5 138 rfl rfl, nm_t5 139 rfl rfl, nm_t1 12 rfl rfl, nm_t5 140 rfl rfl, by decide +kernel⟩
end
section
theorem g_0_27 : mz_ci 0 27 y_FaultLight_init b_FaultLight_init 1 0 := ⟨Or.inr (nm_n1 37 rfl rfl), i_FaultLight_init⟩
theorem g_0_34 : mz_ci 0 34 y_Sorter_init b_Sorter_init 1 0 := ⟨Or.inr (nm_n1 53 rfl rfl), i_Sorter_init⟩
theorem g_0_41 : mz_ci 0 41 y_Collator_init b_Collator_init 1 0 := ⟨Or.inr (nm_n1 72 rfl rfl), i_Collator_init⟩
theorem g_0_48 : mz_ci 0 48 y_Reproducer_init b_Reproducer_init 1 0 := ⟨Or.inr (nm_n1 110 rfl rfl), i_Reproducer_init⟩
theorem g_0_55 : mz_ci 0 55 y_Tabulator_init b_Tabulator_init 1 0 := ⟨Or.inr (nm_n1 139 rfl rfl), i_Tabulator_init⟩
theorem g_0_60 : mz_ci 0 60 y_Deck_init b_Deck_init 1 0 := ⟨Or.inr (nm_n1 180 rfl rfl), i_Deck_init⟩
theorem g_0_61 : mz_ci 0 61 y_Board_init b_Board_init 1 0 := ⟨Or.inl (nm_t1 182 rfl rfl), i_Board_init⟩
theorem g_0_62 : mz_cs 0 62 y_Office_isDeck b_Office_isDeck 1 (some .boolean) 1 := ⟨Or.inl (nm_t1 234 rfl rfl), s_Office_isDeck⟩
theorem g_0_66 : mz_cv 0 66 y_Office_cardsInAll b_Office_cardsInAll 3 (some .int) 0 := ⟨Or.inl (nm_t1 237 rfl rfl), v_Office_cardsInAll⟩
theorem g_0_70 : mz_cv 0 70 y_Office_readColumns b_Office_readColumns 6 (some .boolean) 2 := ⟨Or.inl (nm_t2 1 rfl rfl), v_Office_readColumns⟩
theorem g_0_76 : mz_ci 0 76 y_Card_init b_Card_init 1 0 := ⟨Or.inr (nm_n2 10 rfl rfl), i_Card_init⟩
theorem g_0_80 : mz_cv 0 80 y_Deck_add b_Deck_add 2 none 1 := ⟨Or.inl (nm_t2 24 rfl rfl), v_Deck_add⟩
theorem g_0_84 : mz_cs 0 84 y_Office_isBoard b_Office_isBoard 1 (some .boolean) 1 := ⟨Or.inl (nm_t2 32 rfl rfl), s_Office_isBoard⟩
theorem g_0_87 : mz_cs 0 87 y_Office_isFromJack b_Office_isFromJack 1 (some .boolean) 1 := ⟨Or.inl (nm_t2 35 rfl rfl), s_Office_isFromJack⟩
theorem g_0_90 : mz_cs 0 90 y_Office_isToJack b_Office_isToJack 1 (some .boolean) 1 := ⟨Or.inl (nm_t2 38 rfl rfl), s_Office_isToJack⟩
theorem g_0_93 : mz_cv 0 93 y_Board_addWire b_Board_addWire 3 (some .boolean) 2 := ⟨Or.inl (nm_t2 44 rfl rfl), v_Board_addWire⟩
theorem g_0_97 : mz_cv 0 97 y_Board_makeBare b_Board_makeBare 2 (some .int) 0 := ⟨Or.inl (nm_t2 56 rfl rfl), v_Board_makeBare⟩
theorem g_0_100 : mz_cs 0 100 y_Office_isCounter b_Office_isCounter 1 (some .boolean) 1 := ⟨Or.inl (nm_t2 64 rfl rfl), s_Office_isCounter⟩
theorem g_0_106 : mz_cs 0 106 y_Office_isColumn b_Office_isColumn 1 (some .boolean) 1 := ⟨Or.inl (nm_t2 41 rfl rfl), s_Office_isColumn⟩
theorem g_0_116 : mz_cv 0 116 y_Sorter_passOnce b_Sorter_passOnce 7 (some .int) 3 := ⟨Or.inl (nm_t2 170 rfl rfl), v_Sorter_passOnce⟩
theorem g_0_120 : mz_cs 0 120 y_Office_isField b_Office_isField 2 (some .boolean) 2 := ⟨Or.inl (nm_t2 206 rfl rfl), s_Office_isField⟩
theorem g_0_125 : mz_cv 0 125 y_Sorter_sortOn b_Sorter_sortOn 6 (some .int) 3 := ⟨Or.inl (nm_t2 210 rfl rfl), v_Sorter_sortOn⟩
theorem g_0_129 : mz_cs 0 129 y_Office_areTwoDecks b_Office_areTwoDecks 2 (some .boolean) 2 := ⟨Or.inl (nm_t2 71 rfl rfl), s_Office_areTwoDecks⟩
theorem g_0_134 : mz_cv 0 134 y_Deck_isSorted b_Deck_isSorted 4 (some .boolean) 2 := ⟨Or.inl (nm_t3 5 rfl rfl), v_Deck_isSorted⟩
theorem g_0_142 : mz_cv 0 142 y_Collator_mergeOn b_Collator_mergeOn 9 (some .int) 4 := ⟨Or.inl (nm_t3 22 rfl rfl), v_Collator_mergeOn⟩
theorem g_0_148 : mz_cv 0 148 y_Collator_matchOn b_Collator_matchOn 15 (some .int) 5 := ⟨Or.inl (nm_t3 44 rfl rfl), v_Collator_matchOn⟩
theorem g_0_154 : mz_cv 0 154 y_Reproducer_copyDeck b_Reproducer_copyDeck 7 (some .int) 5 := ⟨Or.inl (nm_t3 56 rfl rfl), v_Reproducer_copyDeck⟩
theorem g_0_160 : mz_cv 0 160 y_Reproducer_punchGangs b_Reproducer_punchGangs 8 (some .int) 4 := ⟨Or.inl (nm_t3 113 rfl rfl), v_Reproducer_punchGangs⟩
theorem g_0_164 : mz_cs 0 164 y_Office_isFactorField b_Office_isFactorField 1 (some .boolean) 1 := ⟨Or.inl (nm_t3 137 rfl rfl), s_Office_isFactorField⟩
theorem g_0_167 : mz_cs 0 167 y_Office_haveCommonColumn b_Office_haveCommonColumn 2 (some .boolean) 2 := ⟨Or.inl (nm_t3 149 rfl rfl), s_Office_haveCommonColumn⟩
theorem g_0_172 : mz_cs 0 172 y_Multiplier_goThrough b_Multiplier_goThrough 7 (some .int) 5 := ⟨Or.inl (nm_t3 153 rfl rfl), s_Multiplier_goThrough⟩
theorem g_0_180 : mz_cv 0 180 y_Tabulator_goThrough b_Tabulator_goThrough 9 (some .int) 3 := ⟨Or.inl (nm_t3 194 rfl rfl), v_Tabulator_goThrough⟩
theorem g_0_187 : mz_cv 0 187 y_Deck_moveFirst b_Deck_moveFirst 5 none 2 := ⟨Or.inl (nm_t2 74 rfl rfl), v_Deck_moveFirst⟩
theorem g_0_196 : mz_cv 0 196 y_Deck_at b_Deck_at 2 (some (.object "CardOffice$Card")) 1 := ⟨Or.inl (nm_t4 60 rfl rfl), v_Deck_at⟩
theorem g_0_234 : mz_cs 0 234 y_Office_endOf b_Office_endOf 1 (some .int) 1 := ⟨Or.inl (nm_t3 140 rfl rfl), s_Office_endOf⟩
theorem g_0_238 : mz_cs 0 238 y_Office_startOf b_Office_startOf 1 (some .int) 1 := ⟨Or.inl (nm_t3 143 rfl rfl), s_Office_startOf⟩
theorem g_0_241 : mz_cs 0 241 y_Office_widthOf b_Office_widthOf 1 (some .int) 1 := ⟨Or.inl (nm_t3 146 rfl rfl), s_Office_widthOf⟩
theorem g_0_244 : mz_cs 0 244 y_Office_isSign b_Office_isSign 1 (some .boolean) 1 := ⟨Or.inl (nm_t2 5 rfl rfl), s_Office_isSign⟩
theorem g_0_247 : mz_cs 0 247 y_Office_digitOf b_Office_digitOf 1 (some .int) 1 := ⟨Or.inl (nm_t2 192 rfl rfl), s_Office_digitOf⟩
theorem g_0_250 : mz_cs 0 250 y_Office_zoneOf b_Office_zoneOf 1 (some .int) 1 := ⟨Or.inl (nm_t2 225 rfl rfl), s_Office_zoneOf⟩
theorem g_0_253 : mz_cs 0 253 y_Office_digitPocketOf b_Office_digitPocketOf 1 (some .int) 1 := ⟨Or.inl (nm_t2 226 rfl rfl), s_Office_digitPocketOf⟩
theorem g_1_21 : mz_cs 1 21 y_Arrays_fill b_Arrays_fill 4 none 2 := ⟨Or.inl (nm_t1 186 rfl rfl), s_Arrays_fill⟩
theorem g_1_31 : mz_cv 1 31 y_Board_hasWire b_Board_hasWire 4 (some .boolean) 2 := ⟨Or.inl (nm_t2 48 rfl rfl), v_Board_hasWire⟩
theorem g_1_40 : mz_cv 1 40 y_Jacks_clear b_Jacks_clear 1 none 0 := ⟨Or.inl (nm_t3 65 rfl rfl), v_Jacks_clear⟩
theorem g_1_45 : mz_cv 1 45 y_Board_isFromExit b_Board_isFromExit 2 (some .boolean) 1 := ⟨Or.inl (nm_t3 70 rfl rfl), v_Board_isFromExit⟩
theorem g_1_49 : mz_cv 1 49 y_Jacks_hasJack b_Jacks_hasJack 2 (some .boolean) 1 := ⟨Or.inl (nm_t3 74 rfl rfl), v_Jacks_hasJack⟩
theorem g_1_52 : mz_cv 1 52 y_Board_signFrom b_Board_signFrom 3 (some .int) 2 := ⟨Or.inl (nm_t3 78 rfl rfl), v_Board_signFrom⟩
theorem g_1_56 : mz_cv 1 56 y_Jacks_bring b_Jacks_bring 4 none 2 := ⟨Or.inl (nm_t3 82 rfl rfl), v_Jacks_bring⟩
theorem g_1_60 : mz_cs 1 60 y_Board_wheelSign b_Board_wheelSign 3 (some .int) 2 := ⟨Or.inl (nm_t3 222 rfl rfl), s_Board_wheelSign⟩
theorem g_1_67 : mz_cv 1 67 y_Card_canTake b_Card_canTake 3 (some .boolean) 2 := ⟨Or.inl (nm_t3 122 rfl rfl), v_Card_canTake⟩
theorem g_2_15 : mz_cs 2 15 y_Office_rankOf b_Office_rankOf 1 (some .int) 1 := ⟨Or.inr (nm_n2 222 rfl rfl), s_Office_rankOf⟩
theorem g_2_19 : mz_cs 2 19 y_Integer_compare b_Integer_compare 2 (some .int) 2 := ⟨Or.inl (nm_t2 227 rfl rfl), s_Integer_compare⟩
theorem g_3_9 : mz_ci 3 9 y_Deck_init b_Deck_init 1 0 := ⟨Or.inr (nm_n1 78 rfl rfl), i_Deck_init⟩
theorem g_3_26 : mz_cs 3 26 y_Collator_orderOf b_Collator_orderOf 6 (some .int) 6 := ⟨Or.inl (nm_t3 26 rfl rfl), s_Collator_orderOf⟩
theorem g_3_30 : mz_cv 3 30 y_Deck_at b_Deck_at 2 (some (.object "CardOffice$Card")) 1 := ⟨Or.inl (nm_t3 29 rfl rfl), v_Deck_at⟩
theorem g_3_34 : mz_cv 3 34 y_Deck_add b_Deck_add 2 none 1 := ⟨Or.inl (nm_t3 31 rfl rfl), v_Deck_add⟩
theorem g_3_38 : mz_cv 3 38 y_Deck_takeAllOf b_Deck_takeAllOf 3 none 1 := ⟨Or.inl (nm_t3 32 rfl rfl), v_Deck_takeAllOf⟩
theorem g_3_42 : mz_cv 3 42 y_Card_compareOn b_Card_compareOn 5 (some .int) 3 := ⟨Or.inl (nm_t3 30 rfl rfl), v_Card_compareOn⟩
theorem g_4_27 : mz_cv 4 27 y_Deck_add b_Deck_add 2 none 1 := ⟨Or.inl (nm_t2 81 rfl rfl), v_Deck_add⟩
theorem g_4_31 : mz_cv 4 31 y_Card_compareOn b_Card_compareOn 5 (some .int) 3 := ⟨Or.inl (nm_t2 218 rfl rfl), v_Card_compareOn⟩
theorem g_4_39 : mz_cs 4 39 y_Office_zoneOf b_Office_zoneOf 1 (some .int) 1 := ⟨Or.inr (nm_n2 235 rfl rfl), s_Office_zoneOf⟩
theorem g_6_19 : mz_cs 6 19 y_Arrays_fill b_Arrays_fill 4 none 2 := ⟨Or.inl (nm_t3 69 rfl rfl), s_Arrays_fill⟩
theorem g_7_20 : mz_cv 7 20 y_Jacks_signOrBlank b_Jacks_signOrBlank 2 (some .int) 1 := ⟨Or.inl (nm_t4 18 rfl rfl), v_Jacks_signOrBlank⟩
theorem g_8_11 : mz_ci 8 11 y_Jacks_init b_Jacks_init 3 2 := ⟨Or.inl (nm_t1 116 rfl rfl), i_Jacks_init⟩
theorem g_8_26 : mz_cv 8 26 y_Deck_at b_Deck_at 2 (some (.object "CardOffice$Card")) 1 := ⟨Or.inl (nm_t3 60 rfl rfl), v_Deck_at⟩
theorem g_8_30 : mz_cv 8 30 y_Board_bringFromCard b_Board_bringFromCard 4 none 2 := ⟨Or.inl (nm_t3 61 rfl rfl), v_Board_bringFromCard⟩
theorem g_8_40 : mz_cv 8 40 y_FaultLight_stopAt b_FaultLight_stopAt 3 (some .int) 2 := ⟨Or.inl (nm_t3 86 rfl rfl), v_FaultLight_stopAt⟩
theorem g_8_46 : mz_cv 8 46 y_Reproducer_newCard b_Reproducer_newCard 3 (some (.object "CardOffice$Card")) 0 := ⟨Or.inl (nm_t3 90 rfl rfl), v_Reproducer_newCard⟩
theorem g_8_50 : mz_cv 8 50 y_Deck_add b_Deck_add 2 none 1 := ⟨Or.inl (nm_t3 100 rfl rfl), v_Deck_add⟩
theorem g_8_54 : mz_cv 8 54 y_FaultLight_allDone b_FaultLight_allDone 2 (some .int) 1 := ⟨Or.inl (nm_t3 101 rfl rfl), v_FaultLight_allDone⟩
theorem g_8_64 : mz_cs 8 64 y_Office_zoneOf b_Office_zoneOf 1 (some .int) 1 := ⟨Or.inr (nm_n3 117 rfl rfl), s_Office_zoneOf⟩
theorem g_8_67 : mz_cv 8 67 y_Board_canPunch b_Board_canPunch 4 (some .boolean) 2 := ⟨Or.inl (nm_t3 118 rfl rfl), v_Board_canPunch⟩
theorem g_8_71 : mz_cv 8 71 y_Reproducer_punchInto b_Reproducer_punchInto 3 none 1 := ⟨Or.inl (nm_t3 126 rfl rfl), v_Reproducer_punchInto⟩
theorem g_8_74 : mz_ci 8 74 y_Card_init b_Card_init 1 0 := ⟨Or.inr (nm_n3 95 rfl rfl), i_Card_init⟩
theorem g_8_75 : mz_cv 8 75 y_Jacks_signOrBlank b_Jacks_signOrBlank 2 (some .int) 1 := ⟨Or.inl (nm_t3 96 rfl rfl), v_Jacks_signOrBlank⟩
theorem g_9_25 : mz_cv 9 25 y_Sorter_fillPockets b_Sorter_fillPockets 5 none 3 := ⟨Or.inl (nm_t2 174 rfl rfl), v_Sorter_fillPockets⟩
theorem g_9_29 : mz_cv 9 29 y_Sorter_stackPockets b_Sorter_stackPockets 5 (some .int) 0 := ⟨Or.inl (nm_t2 195 rfl rfl), v_Sorter_stackPockets⟩
theorem g_9_38 : mz_cv 9 38 y_Deck_at b_Deck_at 2 (some (.object "CardOffice$Card")) 1 := ⟨Or.inl (nm_t2 179 rfl rfl), v_Deck_at⟩
theorem g_9_42 : mz_cs 9 42 y_Sorter_pocketOf b_Sorter_pocketOf 4 (some .int) 3 := ⟨Or.inl (nm_t2 183 rfl rfl), s_Sorter_pocketOf⟩
theorem g_9_49 : mz_cv 9 49 y_Deck_isSorted b_Deck_isSorted 4 (some .boolean) 2 := ⟨Or.inl (nm_t2 214 rfl rfl), v_Deck_isSorted⟩
theorem g_9_53 : mz_cv 9 53 y_Sorter_passOnce b_Sorter_passOnce 7 (some .int) 3 := ⟨Or.inl (nm_t2 230 rfl rfl), v_Sorter_passOnce⟩
theorem g_9_57 : mz_cv 9 57 y_Deck_hasZoneIn b_Deck_hasZoneIn 3 (some .boolean) 1 := ⟨Or.inl (nm_t2 231 rfl rfl), v_Deck_hasZoneIn⟩
theorem g_9_61 : mz_cs 9 61 y_Arrays_fill b_Arrays_fill 4 none 2 := ⟨Or.inl (nm_t2 178 rfl rfl), s_Arrays_fill⟩
theorem g_9_70 : mz_cs 9 70 y_Office_zoneOf b_Office_zoneOf 1 (some .int) 1 := ⟨Or.inr (nm_n2 186 rfl rfl), s_Office_zoneOf⟩
theorem g_9_74 : mz_cs 9 74 y_Office_digitPocketOf b_Office_digitPocketOf 1 (some .int) 1 := ⟨Or.inr (nm_n2 189 rfl rfl), s_Office_digitPocketOf⟩
theorem g_10_17 : mz_ci 10 17 y_Paper_init b_Paper_init 1 0 := ⟨Or.inr (nm_n1 145 rfl rfl), i_Paper_init⟩
theorem g_10_24 : mz_ci 10 24 y_Jacks_init b_Jacks_init 3 2 := ⟨Or.inl (nm_t1 161 rfl rfl), i_Jacks_init⟩
theorem g_10_37 : mz_cs 10 37 y_Arrays_fill b_Arrays_fill 4 none 2 := ⟨Or.inl (nm_t3 198 rfl rfl), s_Arrays_fill⟩
theorem g_10_43 : mz_cv 10 43 y_Board_isListing b_Board_isListing 2 (some .boolean) 0 := ⟨Or.inl (nm_t3 199 rfl rfl), v_Board_isListing⟩
theorem g_10_55 : mz_cv 10 55 y_Deck_at b_Deck_at 2 (some (.object "CardOffice$Card")) 1 := ⟨Or.inl (nm_t3 203 rfl rfl), v_Deck_at⟩
theorem g_10_59 : mz_cv 10 59 y_Board_levelsBroken b_Board_levelsBroken 6 (some .int) 2 := ⟨Or.inl (nm_t3 204 rfl rfl), v_Board_levelsBroken⟩
theorem g_10_63 : mz_cv 10 63 y_Tabulator_faultOfCard b_Tabulator_faultOfCard 6 (some .int) 4 := ⟨Or.inl (nm_t3 209 rfl rfl), v_Tabulator_faultOfCard⟩
theorem g_10_67 : mz_cv 10 67 y_FaultLight_stopAt b_FaultLight_stopAt 3 (some .int) 2 := ⟨Or.inl (nm_t4 9 rfl rfl), v_FaultLight_stopAt⟩
theorem g_10_73 : mz_cv 10 73 y_Tabulator_doTotals b_Tabulator_doTotals 4 none 2 := ⟨Or.inl (nm_t4 10 rfl rfl), v_Tabulator_doTotals⟩
theorem g_10_77 : mz_cv 10 77 y_Tabulator_doCard b_Tabulator_doCard 3 none 1 := ⟨Or.inl (nm_t4 23 rfl rfl), v_Tabulator_doCard⟩
theorem g_10_81 : mz_cv 10 81 y_Tabulator_finish b_Tabulator_finish 5 (some .int) 3 := ⟨Or.inl (nm_t4 27 rfl rfl), v_Tabulator_finish⟩
theorem g_10_85 : mz_cv 10 85 y_Tabulator_faultOfLastTotals b_Tabulator_faultOfLastTotals 2 (some .int) 1 := ⟨Or.inl (nm_t4 31 rfl rfl), v_Tabulator_faultOfLastTotals⟩
theorem g_10_89 : mz_cv 10 89 y_FaultLight_allDone b_FaultLight_allDone 2 (some .int) 1 := ⟨Or.inl (nm_t4 35 rfl rfl), v_FaultLight_allDone⟩
theorem g_10_93 : mz_cv 10 93 y_Board_bringFromCard b_Board_bringFromCard 4 none 2 := ⟨Or.inl (nm_t3 213 rfl rfl), v_Board_bringFromCard⟩
theorem g_10_97 : mz_cv 10 97 y_Tabulator_totalsClash b_Tabulator_totalsClash 4 (some .boolean) 2 := ⟨Or.inl (nm_t3 214 rfl rfl), v_Tabulator_totalsClash⟩
theorem g_10_105 : mz_cv 10 105 y_Tabulator_isAnyOverrun b_Tabulator_isAnyOverrun 5 (some .boolean) 2 := ⟨Or.inl (nm_t3 226 rfl rfl), v_Tabulator_isAnyOverrun⟩
theorem g_10_108 : mz_cs 10 108 y_Tabulator_totalLines b_Tabulator_totalLines 4 (some .int) 2 := ⟨Or.inl (nm_t3 238 rfl rfl), s_Tabulator_totalLines⟩
theorem g_10_112 : mz_cv 10 112 y_Paper_hasRoomFor b_Paper_hasRoomFor 2 (some .boolean) 1 := ⟨Or.inl (nm_t4 5 rfl rfl), v_Paper_hasRoomFor⟩
theorem g_10_116 : mz_cv 10 116 y_Board_bringFromCounters b_Board_bringFromCounters 7 none 3 := ⟨Or.inl (nm_t3 218 rfl rfl), v_Board_bringFromCounters⟩
theorem g_10_123 : mz_cv 10 123 y_Tabulator_entered b_Tabulator_entered 5 (some .int) 1 := ⟨Or.inl (nm_t3 230 rfl rfl), v_Tabulator_entered⟩
theorem g_10_129 : mz_cv 10 129 y_Jacks_signOrBlank b_Jacks_signOrBlank 2 (some .int) 1 := ⟨Or.inl (nm_t3 234 rfl rfl), v_Jacks_signOrBlank⟩
theorem g_10_132 : mz_cs 10 132 y_Office_digitOf b_Office_digitOf 1 (some .int) 1 := ⟨Or.inr (nm_n3 235 rfl rfl), s_Office_digitOf⟩
theorem g_10_140 : mz_cv 10 140 y_Board_hasCounterOf b_Board_hasCounterOf 3 (some .boolean) 1 := ⟨Or.inl (nm_t4 1 rfl rfl), v_Board_hasCounterOf⟩
theorem g_10_143 : mz_cv 10 143 y_Paper_print b_Paper_print 3 none 1 := ⟨Or.inl (nm_t4 14 rfl rfl), v_Paper_print⟩
theorem g_10_147 : mz_cv 10 147 y_Tabulator_clearCounters b_Tabulator_clearCounters 4 none 2 := ⟨Or.inl (nm_t4 19 rfl rfl), v_Tabulator_clearCounters⟩
theorem g_12_15 : mz_cv 12 15 y_Deck_at b_Deck_at 2 (some (.object "CardOffice$Card")) 1 := ⟨Or.inl (nm_t3 156 rfl rfl), v_Deck_at⟩
theorem g_12_19 : mz_cs 12 19 y_Multiplier_multiplyOn b_Multiplier_multiplyOn 10 (some .int) 4 := ⟨Or.inl (nm_t3 157 rfl rfl), s_Multiplier_multiplyOn⟩
theorem g_12_25 : mz_cv 12 25 y_FaultLight_stopAt b_FaultLight_stopAt 3 (some .int) 2 := ⟨Or.inl (nm_t3 184 rfl rfl), v_FaultLight_stopAt⟩
theorem g_12_31 : mz_cv 12 31 y_FaultLight_allDone b_FaultLight_allDone 2 (some .int) 1 := ⟨Or.inl (nm_t3 185 rfl rfl), v_FaultLight_allDone⟩
theorem g_12_35 : mz_cs 12 35 y_Multiplier_numberIn b_Multiplier_numberIn 6 (some .long) 2 := ⟨Or.inl (nm_t3 160 rfl rfl), s_Multiplier_numberIn⟩
theorem g_12_49 : mz_cs 12 49 y_Office_widthOf b_Office_widthOf 1 (some .int) 1 := ⟨Or.inr (nm_n3 173 rfl rfl), s_Office_widthOf⟩
theorem g_12_52 : mz_cs 12 52 y_Multiplier_canTakeNumber b_Multiplier_canTakeNumber 4 (some .boolean) 3 := ⟨Or.inl (nm_t3 174 rfl rfl), s_Multiplier_canTakeNumber⟩
theorem g_12_56 : mz_cs 12 56 y_Multiplier_punchNumber b_Multiplier_punchNumber 4 none 3 := ⟨Or.inl (nm_t3 181 rfl rfl), s_Multiplier_punchNumber⟩
theorem g_12_60 : mz_cs 12 60 y_Office_startOf b_Office_startOf 1 (some .int) 1 := ⟨Or.inr (nm_n3 163 rfl rfl), s_Office_startOf⟩
theorem g_12_63 : mz_cs 12 63 y_Office_endOf b_Office_endOf 1 (some .int) 1 := ⟨Or.inr (nm_n3 164 rfl rfl), s_Office_endOf⟩
theorem g_12_71 : mz_cs 12 71 y_Office_zoneOf b_Office_zoneOf 1 (some .int) 1 := ⟨Or.inr (nm_n3 165 rfl rfl), s_Office_zoneOf⟩
theorem g_12_74 : mz_cs 12 74 y_Office_digitOf b_Office_digitOf 1 (some .int) 1 := ⟨Or.inr (nm_n3 168 rfl rfl), s_Office_digitOf⟩
theorem g_12_82 : mz_cs 12 82 y_Multiplier_signOfNumber b_Multiplier_signOfNumber 3 (some .int) 3 := ⟨Or.inl (nm_t3 177 rfl rfl), s_Multiplier_signOfNumber⟩
theorem g_12_86 : mz_cv 12 86 y_Card_canTake b_Card_canTake 3 (some .boolean) 2 := ⟨Or.inl (nm_t3 180 rfl rfl), v_Card_canTake⟩
end
section
theorem g_11_55 : mz_cs 11 55 y_Model_zoneOf b_Model_zoneOf 1 (some .int) 1 := ⟨Or.inl (nm_t4 205 rfl rfl), s_Model_zoneOf⟩
theorem g_11_59 : mz_cs 11 59 y_Model_digitOf b_Model_digitOf 1 (some .int) 1 := ⟨Or.inl (nm_t4 208 rfl rfl), s_Model_digitOf⟩
theorem g_11_65 : mz_cs 11 65 y_Model_isDeck b_Model_isDeck 1 (some .boolean) 1 := ⟨Or.inl (nm_t4 146 rfl rfl), s_Model_isDeck⟩
theorem g_11_71 : mz_cs 11 71 y_Model_isSign b_Model_isSign 1 (some .boolean) 1 := ⟨Or.inl (nm_t4 150 rfl rfl), s_Model_isSign⟩
theorem g_11_74 : mz_cv 11 74 y_Model_newCard b_Model_newCard 2 (some .int) 0 := ⟨Or.inl (nm_t4 153 rfl rfl), v_Model_newCard⟩
theorem g_11_78 : mz_cv 11 78 y_Model_add b_Model_add 3 none 2 := ⟨Or.inl (nm_t4 157 rfl rfl), v_Model_add⟩
theorem g_11_82 : mz_cs 11 82 y_Model_isBoard b_Model_isBoard 1 (some .boolean) 1 := ⟨Or.inl (nm_t4 165 rfl rfl), s_Model_isBoard⟩
theorem g_11_85 : mz_cs 11 85 y_Model_isFrom b_Model_isFrom 1 (some .boolean) 1 := ⟨Or.inl (nm_t4 168 rfl rfl), s_Model_isFrom⟩
theorem g_11_88 : mz_cs 11 88 y_Model_isTo b_Model_isTo 1 (some .boolean) 1 := ⟨Or.inl (nm_t4 171 rfl rfl), s_Model_isTo⟩
theorem g_11_91 : mz_cv 11 91 y_Model_at b_Model_at 3 (some .int) 2 := ⟨Or.inl (nm_t4 201 rfl rfl), v_Model_at⟩
theorem g_11_95 : mz_cv 11 95 y_Model_brings b_Model_brings 4 (some .int) 2 := ⟨Or.inl (nm_t5 21 rfl rfl), v_Model_brings⟩
theorem g_11_98 : mz_cv 11 98 y_Model_cardAt b_Model_cardAt 3 (some .int) 2 := ⟨Or.inl (nm_t4 193 rfl rfl), v_Model_cardAt⟩
theorem g_11_101 : mz_cv 11 101 y_Model_keyOf b_Model_keyOf 4 (some .int) 3 := ⟨Or.inl (nm_t4 197 rfl rfl), v_Model_keyOf⟩
theorem g_11_108 : mz_cs 11 108 y_Model_isColumn b_Model_isColumn 1 (some .boolean) 1 := ⟨Or.inl (nm_t4 186 rfl rfl), s_Model_isColumn⟩
theorem g_11_111 : mz_cv 11 111 y_Model_sift b_Model_sift 9 (some .int) 3 := ⟨Or.inl (nm_t4 189 rfl rfl), v_Model_sift⟩
theorem g_11_114 : mz_cs 11 114 y_Model_rank b_Model_rank 1 (some .int) 1 := ⟨Or.inl (nm_t4 226 rfl rfl), s_Model_rank⟩
theorem g_11_117 : mz_cv 11 117 y_Model_compare b_Model_compare 6 (some .int) 4 := ⟨Or.inl (nm_t4 222 rfl rfl), v_Model_compare⟩
theorem g_11_121 : mz_cs 11 121 y_Model_isField b_Model_isField 2 (some .boolean) 2 := ⟨Or.inl (nm_t4 215 rfl rfl), s_Model_isField⟩
theorem g_11_125 : mz_cv 11 125 y_Model_isSorted b_Model_isSorted 6 (some .boolean) 3 := ⟨Or.inl (nm_t4 218 rfl rfl), v_Model_isSorted⟩
theorem g_11_129 : mz_cv 11 129 y_Model_putIn b_Model_putIn 7 none 5 := ⟨Or.inl (nm_t4 229 rfl rfl), v_Model_putIn⟩
theorem g_11_136 : mz_cv 11 136 y_Model_hasKey b_Model_hasKey 7 (some .boolean) 4 := ⟨Or.inl (nm_t5 5 rfl rfl), v_Model_hasKey⟩
theorem g_11_140 : mz_cv 11 140 y_Model_take b_Model_take 8 (some .int) 5 := ⟨Or.inl (nm_t5 1 rfl rfl), v_Model_take⟩
theorem g_11_144 : mz_cv 11 144 y_Model_leave b_Model_leave 9 none 4 := ⟨Or.inl (nm_t5 9 rfl rfl), v_Model_leave⟩
theorem g_11_151 : mz_cv 11 151 y_Model_arrives b_Model_arrives 7 (some .int) 3 := ⟨Or.inl (nm_t5 17 rfl rfl), v_Model_arrives⟩
theorem g_11_155 : mz_cv 11 155 y_Model_fails b_Model_fails 3 (some .int) 2 := ⟨Or.inl (nm_t5 25 rfl rfl), v_Model_fails⟩
theorem g_11_158 : mz_cv 11 158 y_Model_faultOfGang b_Model_faultOfGang 9 (some .int) 3 := ⟨Or.inl (nm_t5 33 rfl rfl), v_Model_faultOfGang⟩
theorem g_11_163 : mz_cs 11 163 y_Model_isFactor b_Model_isFactor 1 (some .boolean) 1 := ⟨Or.inl (nm_t5 41 rfl rfl), s_Model_isFactor⟩
theorem g_11_166 : mz_cs 11 166 y_Model_meet b_Model_meet 2 (some .boolean) 2 := ⟨Or.inl (nm_t5 44 rfl rfl), s_Model_meet⟩
theorem g_11_169 : mz_cv 11 169 y_Model_numberOf b_Model_numberOf 7 (some .int) 2 := ⟨Or.inl (nm_t5 47 rfl rfl), v_Model_numberOf⟩
theorem g_11_174 : mz_cs 11 174 y_Model_tenTo b_Model_tenTo 4 (some .long) 1 := ⟨Or.inl (nm_t5 53 rfl rfl), s_Model_tenTo⟩
theorem g_11_178 : mz_cv 11 178 y_Model_punches b_Model_punches 11 (some .boolean) 4 := ⟨Or.inl (nm_t5 56 rfl rfl), v_Model_punches⟩
theorem g_11_182 : mz_cv 11 182 y_Model_wheel b_Model_wheel 5 (some .int) 2 := ⟨Or.inl (nm_t5 88 rfl rfl), v_Model_wheel⟩
theorem g_11_185 : mz_cv 11 185 y_Model_totals b_Model_totals 9 (some .int) 3 := ⟨Or.inl (nm_t5 84 rfl rfl), v_Model_totals⟩
theorem g_11_191 : mz_cv 11 191 y_Model_hasLevel b_Model_hasLevel 5 (some .boolean) 2 := ⟨Or.inl (nm_t5 92 rfl rfl), v_Model_hasLevel⟩
theorem g_11_194 : mz_cv 11 194 y_Model_print b_Model_print 3 none 2 := ⟨Or.inl (nm_t5 105 rfl rfl), v_Model_print⟩
theorem g_11_197 : mz_cv 11 197 y_Model_isListed b_Model_isListed 4 (some .boolean) 1 := ⟨Or.inl (nm_t5 72 rfl rfl), v_Model_isListed⟩
theorem g_11_200 : mz_cv 11 200 y_Model_counts b_Model_counts 10 (some .boolean) 3 := ⟨Or.inl (nm_t5 76 rfl rfl), v_Model_counts⟩
theorem g_11_203 : mz_cv 11 203 y_Model_clashes b_Model_clashes 5 (some .boolean) 2 := ⟨Or.inl (nm_t5 80 rfl rfl), v_Model_clashes⟩
theorem g_11_207 : mz_cv 11 207 y_Model_total b_Model_total 4 none 2 := ⟨Or.inl (nm_t5 101 rfl rfl), v_Model_total⟩
theorem g_11_210 : mz_cv 11 210 y_Model_breaks b_Model_breaks 9 (some .boolean) 4 := ⟨Or.inl (nm_t5 64 rfl rfl), v_Model_breaks⟩
theorem g_11_213 : mz_cv 11 213 y_Model_faultOfCard b_Model_faultOfCard 9 (some .int) 3 := ⟨Or.inl (nm_t5 68 rfl rfl), v_Model_faultOfCard⟩
theorem g_11_216 : mz_cv 11 216 y_Model_tabulateCard b_Model_tabulateCard 5 none 3 := ⟨Or.inl (nm_t5 97 rfl rfl), v_Model_tabulateCard⟩
theorem g_11_220 : mz_cv 11 220 y_Model_faultOfEnd b_Model_faultOfEnd 5 (some .int) 1 := ⟨Or.inl (nm_t5 109 rfl rfl), v_Model_faultOfEnd⟩
end
section
theorem mk_lit : Int32.ofInt (-1) = -1 ∧ Int32.ofInt 0 = nI 0 ∧ Int32.ofInt 1 = nI 1 ∧ Int32.ofInt 2 = nI 2 ∧ Int32.ofInt 3 = nI 3 ∧ Int32.ofInt 4 = nI 4 ∧ Int32.ofInt 5 = nI 5 ∧ Int32.ofInt 6 = nI 6 ∧ (Int8.ofInt (-2)).toInt32 = -2 ∧ (Int8.ofInt 6).toInt32 = nI 6 ∧ (Int8.ofInt 8).toInt32 = nI 8 ∧ (Int8.ofInt 9).toInt32 = nI 9 ∧ (Int8.ofInt 10).toInt32 = nI 10 ∧ (Int8.ofInt 11).toInt32 = nI 11 ∧ (Int8.ofInt 14).toInt32 = nI 14 ∧ (Int8.ofInt 15).toInt32 = nI 15 ∧ (Int8.ofInt 16).toInt32 = nI 16 ∧ (Int8.ofInt 24).toInt32 = nI 24 ∧ (Int8.ofInt 26).toInt32 = nI 26 ∧ (Int8.ofInt 31).toInt32 = nI 31 ∧ (Int8.ofInt 32).toInt32 = nI 32 ∧ (Int8.ofInt 40).toInt32 = nI 40 ∧ (Int8.ofInt 48).toInt32 = nI 48 ∧ (Int8.ofInt 56).toInt32 = nI 56 ∧ (Int8.ofInt 57).toInt32 = nI 57 ∧ (Int8.ofInt 64).toInt32 = nI 64 ∧ (Int8.ofInt 65).toInt32 = nI 65 ∧ (Int8.ofInt 73).toInt32 = nI 73 ∧ (Int8.ofInt 74).toInt32 = nI 74 ∧ (Int8.ofInt 81).toInt32 = nI 81 ∧ (Int8.ofInt 83).toInt32 = nI 83 ∧ (Int8.ofInt 88).toInt32 = nI 88 ∧ (Int8.ofInt 90).toInt32 = nI 90 ∧ (Int8.ofInt 96).toInt32 = nI 96 ∧ (Int8.ofInt 99).toInt32 = nI 99 ∧ (Int8.ofInt 100).toInt32 = nI 100 ∧ (Int16.ofInt 160).toInt32 = nI 160 ∧ (Int16.ofInt 200).toInt32 = nI 200 ∧ (Int16.ofInt 255).toInt32 = nI 255 ∧ (Int16.ofInt 1600).toInt32 = nI 1600 ∧ (Int16.ofInt 2400).toInt32 = nI 2400 ∧ (Int16.ofInt 3200).toInt32 = nI 3200 := by decide +kernel
theorem mk_fin : ((0 : Fin 4).val = 0) ∧ ((1 : Fin 4).val = 1) ∧ ((2 : Fin 4).val = 2) ∧ ((3 : Fin 4).val = 3) := by decide
theorem mk_cat : (∀ x, (Value.int x).category = 1) ∧ (∀ x, (Value.long x).category = 2) ∧ (∀ x, (Value.ref x).category = 1) ∧ Value.null.category = 1 := ⟨fun _ => rfl, fun _ => rfl, fun _ => rfl, rfl⟩
theorem mk_fit : (∀ x, mz_fit .int (.int x) = True) ∧ (∀ c a, mz_fit (.object c) (.ref a) = True) ∧ (∀ c a, mz_fit (.array c) (.ref a) = True) ∧ (mz_fit .boolean (.int (nI 0)) = True) ∧ (mz_fit .boolean (.int (nI 1)) = True) := ⟨fun _ => eq_true ⟨rfl, rfl⟩, fun _ _ => eq_true ⟨rfl, rfl⟩, fun _ _ => eq_true ⟨rfl, rfl⟩, eq_true ⟨by decide +kernel, by decide +kernel⟩, eq_true ⟨by decide +kernel, by decide +kernel⟩⟩
theorem mk_nar : (∀ x, narrow .int (.int x) = .int x) ∧ (narrow .boolean (.int (nI 0)) = .int (nI 0)) ∧ (narrow .boolean (.int (nI 1)) = .int (nI 1)) := ⟨fun _ => rfl, by decide +kernel, by decide +kernel⟩
theorem mk_fld : nm_FTy 0 0 = .array (.object "CardOffice$Deck") ∧ nm_Fin 0 0 = true ∧ nm_FTy 0 1 = .array (.object "CardOffice$Board") ∧ nm_Fin 0 1 = true ∧ nm_FTy 0 2 = .array (.int) ∧ nm_Fin 0 2 = true ∧ nm_FTy 0 3 = .object "CardOffice$FaultLight" ∧ nm_Fin 0 3 = true ∧ nm_FTy 0 4 = .object "CardOffice$Sorter" ∧ nm_Fin 0 4 = true ∧ nm_FTy 0 5 = .object "CardOffice$Collator" ∧ nm_Fin 0 5 = true ∧ nm_FTy 0 6 = .object "CardOffice$Reproducer" ∧ nm_Fin 0 6 = true ∧ nm_FTy 0 7 = .object "CardOffice$Tabulator" ∧ nm_Fin 0 7 = true ∧ nm_FTy 1 0 = .array (.int) ∧ nm_Fin 1 0 = true ∧ nm_FTy 1 1 = .array (.int) ∧ nm_Fin 1 1 = true ∧ nm_FTy 1 2 = .array (.int) ∧ nm_Fin 1 2 = true ∧ nm_FTy 1 3 = .int ∧ nm_Fin 1 3 = false ∧ nm_FTy 2 0 = .array (.int) ∧ nm_Fin 2 0 = true ∧ nm_FTy 3 0 = .object "CardOffice$Deck" ∧ nm_Fin 3 0 = true ∧ nm_FTy 3 1 = .object "CardOffice$Deck" ∧ nm_Fin 3 1 = true ∧ nm_FTy 3 2 = .int ∧ nm_Fin 3 2 = false ∧ nm_FTy 4 0 = .array (.object "CardOffice$Card") ∧ nm_Fin 4 0 = true ∧ nm_FTy 4 1 = .int ∧ nm_Fin 4 1 = false ∧ nm_FTy 5 0 = .int ∧ nm_Fin 5 0 = false ∧ nm_FTy 5 1 = .int ∧ nm_Fin 5 1 = false ∧ nm_FTy 6 0 = .int ∧ nm_Fin 6 0 = true ∧ nm_FTy 6 1 = .array (.int) ∧ nm_Fin 6 1 = true ∧ nm_FTy 6 2 = .boolean ∧ nm_Fin 6 2 = false ∧ nm_FTy 7 0 = .array (.array (.int)) ∧ nm_Fin 7 0 = true ∧ nm_FTy 7 1 = .int ∧ nm_Fin 7 1 = false ∧ nm_FTy 8 0 = .object "CardOffice$Jacks" ∧ nm_Fin 8 0 = true ∧ nm_FTy 9 0 = .array (.int) ∧ nm_Fin 9 0 = true ∧ nm_FTy 9 1 = .array (.object "CardOffice$Card") ∧ nm_Fin 9 1 = true ∧ nm_FTy 9 2 = .int ∧ nm_Fin 9 2 = false ∧ nm_FTy 10 0 = .array (.int) ∧ nm_Fin 10 0 = true ∧ nm_FTy 10 1 = .object "CardOffice$Paper" ∧ nm_Fin 10 1 = true ∧ nm_FTy 10 2 = .object "CardOffice$Jacks" ∧ nm_Fin 10 2 = true ∧ nm_FTy 10 3 = .object "CardOffice$Jacks" ∧ nm_Fin 10 3 = true ∧ nm_FTy 10 4 = .object "CardOffice$Jacks" ∧ nm_Fin 10 4 = true ∧ nm_FTy 11 0 = .int ∧ nm_Fin 11 0 = false ∧ nm_FTy 11 1 = .int ∧ nm_Fin 11 1 = false ∧ nm_FTy 11 2 = .array (.byte) ∧ nm_Fin 11 2 = true ∧ nm_FTy 11 3 = .array (.short) ∧ nm_Fin 11 3 = true ∧ nm_FTy 11 4 = .array (.int) ∧ nm_Fin 11 4 = true ∧ nm_FTy 11 5 = .array (.short) ∧ nm_Fin 11 5 = true ∧ nm_FTy 11 6 = .array (.short) ∧ nm_Fin 11 6 = true ∧ nm_FTy 11 7 = .array (.byte) ∧ nm_Fin 11 7 = true ∧ nm_FTy 11 8 = .array (.byte) ∧ nm_Fin 11 8 = true ∧ nm_FTy 11 9 = .array (.int) ∧ nm_Fin 11 9 = true ∧ nm_FTy 11 10 = .array (.int) ∧ nm_Fin 11 10 = true ∧ nm_FTy 11 11 = .array (.int) ∧ nm_Fin 11 11 = true ∧ nm_FTy 11 12 = .array (.int) ∧ nm_Fin 11 12 = true ∧ nm_FTy 11 13 = .array (.byte) ∧ nm_Fin 11 13 = true ∧ nm_FTy 11 14 = .int ∧ nm_Fin 11 14 = false ∧ nm_FTy 11 15 = .int ∧ nm_Fin 11 15 = false ∧ nm_FTy 11 16 = .int ∧ nm_Fin 11 16 = false ∧ nm_FTy 11 17 = .int ∧ nm_Fin 11 17 = false ∧ nm_FTy 11 18 = .int ∧ nm_Fin 11 18 = false := ⟨rfl, rfl, rfl, rfl, rfl, rfl, rfl, rfl, rfl, rfl, rfl, rfl, rfl, rfl, rfl, rfl, rfl, rfl, rfl, rfl, rfl, rfl, rfl, rfl, rfl, rfl, rfl, rfl, rfl, rfl, rfl, rfl, rfl, rfl, rfl, rfl, rfl, rfl, rfl, rfl, rfl, rfl, rfl, rfl, rfl, rfl, rfl, rfl, rfl, rfl, rfl, rfl, rfl, rfl, rfl, rfl, rfl, rfl, rfl, rfl, rfl, rfl, rfl, rfl, rfl, rfl, rfl, rfl, rfl, rfl, rfl, rfl, rfl, rfl, rfl, rfl, rfl, rfl, rfl, rfl, rfl, rfl, rfl, rfl, rfl, rfl, rfl, rfl, rfl, rfl, rfl, rfl, rfl, rfl, rfl, rfl, rfl, rfl, rfl, rfl, rfl, rfl, rfl, rfl, rfl, rfl⟩
theorem mk_cls : nm_Cl[0]? = some ("CardOffice", nm_T0, 8) ∧ nm_Cl[1]? = some ("CardOffice$Board", nm_T1, 4) ∧ nm_Cl[2]? = some ("CardOffice$Card", nm_T2, 1) ∧ nm_Cl[3]? = some ("CardOffice$Collator", nm_T3, 3) ∧ nm_Cl[4]? = some ("CardOffice$Deck", nm_T4, 2) ∧ nm_Cl[5]? = some ("CardOffice$FaultLight", nm_T5, 2) ∧ nm_Cl[6]? = some ("CardOffice$Jacks", nm_T6, 3) ∧ nm_Cl[7]? = some ("CardOffice$Paper", nm_T7, 2) ∧ nm_Cl[8]? = some ("CardOffice$Reproducer", nm_T8, 1) ∧ nm_Cl[9]? = some ("CardOffice$Sorter", nm_T9, 3) ∧ nm_Cl[10]? = some ("CardOffice$Tabulator", nm_T10, 5) ∧ nm_Cl[11]? = some ("CardOfficeModel", nm_T11, 19) := ⟨rfl, rfl, rfl, rfl, rfl, rfl, rfl, rfl, rfl, rfl, rfl, rfl⟩
theorem mk_ty : nm_Ty[0]? = some (.int) ∧ nm_Ty[1]? = some (.byte) ∧ nm_Ty[2]? = some (.short) ∧ nm_Ty[3]? = some (.long) ∧ nm_Ty[4]? = some (.object "CardOffice$Deck") ∧ nm_Ty[5]? = some (.object "CardOffice$Board") ∧ nm_Ty[6]? = some (.object "CardOffice$Card") ∧ nm_Ty[7]? = some (.array .int) := ⟨rfl, rfl, rfl, rfl, rfl, rfl, rfl, rfl⟩
theorem mk_isr : (∀ c, (FieldType.object c).isReference = true) ∧ (∀ c, (FieldType.array c).isReference = true) := ⟨fun _ => rfl, fun _ => rfl⟩
theorem mk_get0 {a : Option Value} {l : mz_L} : (a :: l)[0]? = some a := rfl
theorem mk_get1 {a b : Option Value} {l : mz_L} : (a :: b :: l)[1]? = some b := rfl
theorem mk_Ct {G : mz_G} {X : mz_E} {y : MethodName} {cc : ByteArray} {nL : Nat} {ret : Option FieldType} {rm : Room} {vs : List Value} {n : Nat} {f : mz_H} {post : Option Value → Nat → mz_H → Prop} (cn : Nat) (ini : Bool) (l : mz_L) (hy : plainName y.cls = true) (hcn : y.cls = nm_Own cn) (hin : ini = true → y.name = "<init>") (hlen : (mz_la vs).length ≤ nL) (hl : mz_l0 nL vs = l)
    (h : mz_X G X cn ini cc nL ret rm post (fun _ _ _ => False) 0 l [] 0 0 n f) : mz_Ct G X y cc nL ret rm vs n f post := mz_Ct_of cn ini hy hcn hin hlen (by rw [hl]; exact h)
def mk_b (c : Prop) [Decidable c] : Int32 := if c then nI 1 else nI 0
theorem mk_b_t {c : Prop} [Decidable c] (h : c) : mk_b c = nI 1 := if_pos h
theorem mk_b_f {c : Prop} [Decidable c] (h : ¬ c) : mk_b c = nI 0 := if_neg h
theorem mk_b0 (c : Prop) [Decidable c] : (mk_b c = 0) = ¬ c := by
  by_cases h : c
  · rw [mk_b_t h]; simp [h]; decide
  · rw [mk_b_f h]; simp [h]; decide
theorem mk_b1 (c : Prop) [Decidable c] : (nI 1 = mk_b c) = c := by
  by_cases h : c
  · rw [mk_b_t h]; simp [h]
  · rw [mk_b_f h]; simp [h]; decide
theorem mk_b2 (c : Prop) [Decidable c] : (nI 0 = mk_b c) = ¬ c := by
  by_cases h : c
  · rw [mk_b_t h]; simp [h]; decide
  · rw [mk_b_f h]; simp [h]
theorem mk_bn (c : Prop) [Decidable c] : (narrow .boolean (.int (mk_b c)) = .int (mk_b c)) = True := by
  by_cases h : c
  · rw [mk_b_t h]; simp; decide +kernel
  · rw [mk_b_f h]; simp; decide +kernel
theorem mk_lt (x y : Int32) : (x < y) = (x.toInt < y.toInt) := propext Int32.lt_iff_toInt_lt
theorem mk_le (x y : Int32) : (x ≤ y) = (x.toInt ≤ y.toInt) := propext Int32.le_iff_toInt_le
theorem mk_eq (x y : Int32) : (x = y) = (x.toInt = y.toInt) := propext Int32.toInt_inj.symm
abbrev aI (N : Nat) (g : Nat → Int32) : mz_C := .inl (0, N, .inl g)
abbrev aB (N : Nat) (g : Nat → Int32) : mz_C := .inl (1, N, .inl g)
abbrev aS (N : Nat) (g : Nat → Int32) : mz_C := .inl (2, N, .inl g)
abbrev aQ (t N : Nat) (g : Nat → Option Nat) : mz_C := .inl (t, N, .inr (.inr (.inr (.inr g))))
theorem mk_ti : (nI 0).toInt = 0 ∧ (nI 1).toInt = 1 ∧ (nI 2).toInt = 2 ∧ (nI 3).toInt = 3 ∧ (nI 4).toInt = 4 ∧ (nI 5).toInt = 5 ∧ (nI 6).toInt = 6 ∧ (nI 8).toInt = 8 ∧ (nI 9).toInt = 9 ∧ (nI 10).toInt = 10 ∧ (nI 11).toInt = 11 ∧ (nI 14).toInt = 14 ∧ (nI 15).toInt = 15 ∧ (nI 16).toInt = 16 ∧ (nI 24).toInt = 24 ∧ (nI 26).toInt = 26 ∧ (nI 31).toInt = 31 ∧ (nI 32).toInt = 32 ∧ (nI 40).toInt = 40 ∧ (nI 48).toInt = 48 ∧ (nI 56).toInt = 56 ∧ (nI 57).toInt = 57 ∧ (nI 64).toInt = 64 ∧ (nI 65).toInt = 65 ∧ (nI 73).toInt = 73 ∧ (nI 74).toInt = 74 ∧ (nI 81).toInt = 81 ∧ (nI 83).toInt = 83 ∧ (nI 88).toInt = 88 ∧ (nI 90).toInt = 90 ∧ (nI 96).toInt = 96 ∧ (nI 99).toInt = 99 ∧ (nI 100).toInt = 100 ∧ (nI 160).toInt = 160 ∧ (nI 200).toInt = 200 ∧ (nI 255).toInt = 255 ∧ (nI 1600).toInt = 1600 ∧ (nI 2400).toInt = 2400 ∧ (nI 3200).toInt = 3200 ∧ (0 : Int32).toInt = 0 ∧ (-1 : Int32).toInt = -1 := by decide +kernel
def mk_X : mz_E := fun _ => none
def mk_pw (k : Nat) : Int32 := if k = 0 then nI 1 else if k = 1 then nI 10 else if k = 2 then nI 100 else if k = 3 then nI 1000 else if k = 4 then nI 10000 else if k = 5 then nI 100000 else nI 1000000
def mk_P : mz_E := fun a => if a = 1000000000001 then some (7, mk_pw) else none
theorem j_Office_init : mz_t 89 22 = 111 ∧ (0 ≤ ((89 : Nat) : Int) + 22) ∧ mz_t 108 (-22) = 86 ∧ (0 ≤ ((108 : Nat) : Int) + (-22)) ∧ mz_t 115 22 = 137 ∧ (0 ≤ ((115 : Nat) : Int) + 22) ∧ mz_t 134 (-21) = 113 ∧ (0 ≤ ((134 : Nat) : Int) + (-21)) := by decide +kernel
theorem j_Arrays_fill : mz_t 7 13 = 20 ∧ (0 ≤ ((7 : Nat) : Int) + 13) ∧ mz_t 17 (-12) = 5 ∧ (0 ≤ ((17 : Nat) : Int) + (-12)) := by decide +kernel
theorem j_Office_card : mz_t 4 13 = 17 ∧ (0 ≤ ((4 : Nat) : Int) + 13) ∧ mz_t 14 5 = 19 ∧ (0 ≤ ((14 : Nat) : Int) + 5) ∧ mz_t 25 14 = 39 ∧ (0 ≤ ((25 : Nat) : Int) + 14) ∧ mz_t 36 5 = 41 ∧ (0 ≤ ((36 : Nat) : Int) + 5) ∧ mz_t 57 24 = 81 ∧ (0 ≤ ((57 : Nat) : Int) + 24) ∧ mz_t 78 (-25) = 53 ∧ (0 ≤ ((78 : Nat) : Int) + (-25)) := by decide +kernel
theorem j_Office_isDeck : mz_t 1 13 = 14 ∧ (0 ≤ ((1 : Nat) : Int) + 13) ∧ mz_t 7 7 = 14 ∧ (0 ≤ ((7 : Nat) : Int) + 7) ∧ mz_t 11 4 = 15 ∧ (0 ≤ ((11 : Nat) : Int) + 4) := by decide +kernel
theorem j_Office_cardsInAll : mz_t 7 21 = 28 ∧ (0 ≤ ((7 : Nat) : Int) + 21) ∧ mz_t 25 (-21) = 4 ∧ (0 ≤ ((25 : Nat) : Int) + (-21)) := by decide +kernel
theorem j_Office_readColumns : mz_t 7 47 = 54 ∧ (0 ≤ ((7 : Nat) : Int) + 47) ∧ mz_t 32 5 = 37 ∧ (0 ≤ ((32 : Nat) : Int) + 5) ∧ mz_t 51 (-48) = 3 ∧ (0 ≤ ((51 : Nat) : Int) + (-48)) := by decide +kernel
theorem j_Office_isSign : mz_t 3 27 = 30 ∧ (0 ≤ ((3 : Nat) : Int) + 27) ∧ mz_t 9 9 = 18 ∧ (0 ≤ ((9 : Nat) : Int) + 9) ∧ mz_t 15 15 = 30 ∧ (0 ≤ ((15 : Nat) : Int) + 15) ∧ mz_t 21 13 = 34 ∧ (0 ≤ ((21 : Nat) : Int) + 13) ∧ mz_t 27 7 = 34 ∧ (0 ≤ ((27 : Nat) : Int) + 7) ∧ mz_t 31 4 = 35 ∧ (0 ≤ ((31 : Nat) : Int) + 4) := by decide +kernel
theorem j_Office_wire : mz_t 4 17 = 21 ∧ (0 ≤ ((4 : Nat) : Int) + 17) ∧ mz_t 11 10 = 21 ∧ (0 ≤ ((11 : Nat) : Int) + 10) ∧ mz_t 18 5 = 23 ∧ (0 ≤ ((18 : Nat) : Int) + 5) := by decide +kernel
theorem j_Office_isBoard : mz_t 1 12 = 13 ∧ (0 ≤ ((1 : Nat) : Int) + 12) ∧ mz_t 6 7 = 13 ∧ (0 ≤ ((6 : Nat) : Int) + 7) ∧ mz_t 10 4 = 14 ∧ (0 ≤ ((10 : Nat) : Int) + 4) := by decide +kernel
theorem j_Office_isFromJack : mz_t 1 9 = 10 ∧ (0 ≤ ((1 : Nat) : Int) + 9) ∧ mz_t 7 15 = 22 ∧ (0 ≤ ((7 : Nat) : Int) + 15) ∧ mz_t 13 13 = 26 ∧ (0 ≤ ((13 : Nat) : Int) + 13) ∧ mz_t 19 7 = 26 ∧ (0 ≤ ((19 : Nat) : Int) + 7) ∧ mz_t 23 4 = 27 ∧ (0 ≤ ((23 : Nat) : Int) + 4) := by decide +kernel
theorem j_Office_isToJack : mz_t 4 39 = 43 ∧ (0 ≤ ((4 : Nat) : Int) + 39) ∧ mz_t 10 9 = 19 ∧ (0 ≤ ((10 : Nat) : Int) + 9) ∧ mz_t 16 27 = 43 ∧ (0 ≤ ((16 : Nat) : Int) + 27) ∧ mz_t 22 9 = 31 ∧ (0 ≤ ((22 : Nat) : Int) + 9) ∧ mz_t 28 15 = 43 ∧ (0 ≤ ((28 : Nat) : Int) + 15) ∧ mz_t 34 13 = 47 ∧ (0 ≤ ((34 : Nat) : Int) + 13) ∧ mz_t 40 7 = 47 ∧ (0 ≤ ((40 : Nat) : Int) + 7) ∧ mz_t 44 4 = 48 ∧ (0 ≤ ((44 : Nat) : Int) + 4) := by decide +kernel
theorem j_Office_isColumn : mz_t 1 13 = 14 ∧ (0 ≤ ((1 : Nat) : Int) + 13) ∧ mz_t 7 7 = 14 ∧ (0 ≤ ((7 : Nat) : Int) + 7) ∧ mz_t 11 4 = 15 ∧ (0 ≤ ((11 : Nat) : Int) + 4) := by decide +kernel
theorem j_Board_addWire : mz_t 6 12 = 18 ∧ (0 ≤ ((6 : Nat) : Int) + 12) ∧ mz_t 15 5 = 20 ∧ (0 ≤ ((15 : Nat) : Int) + 5) := by decide +kernel
theorem j_Board_hasWire : mz_t 7 31 = 38 ∧ (0 ≤ ((7 : Nat) : Int) + 31) ∧ mz_t 17 15 = 32 ∧ (0 ≤ ((17 : Nat) : Int) + 15) ∧ mz_t 27 5 = 32 ∧ (0 ≤ ((27 : Nat) : Int) + 5) ∧ mz_t 35 (-33) = 2 ∧ (0 ≤ ((35 : Nat) : Int) + (-33)) := by decide +kernel
theorem j_Office_strip : mz_t 4 5 = 9 ∧ (0 ≤ ((4 : Nat) : Int) + 5) := by decide +kernel
theorem j_Office_level : mz_t 4 19 = 23 ∧ (0 ≤ ((4 : Nat) : Int) + 19) ∧ mz_t 11 12 = 23 ∧ (0 ≤ ((11 : Nat) : Int) + 12) ∧ mz_t 15 8 = 23 ∧ (0 ≤ ((15 : Nat) : Int) + 8) ∧ mz_t 20 5 = 25 ∧ (0 ≤ ((20 : Nat) : Int) + 5) := by decide +kernel
theorem j_Office_isCounter : mz_t 1 12 = 13 ∧ (0 ≤ ((1 : Nat) : Int) + 12) ∧ mz_t 6 7 = 13 ∧ (0 ≤ ((6 : Nat) : Int) + 7) ∧ mz_t 10 4 = 14 ∧ (0 ≤ ((10 : Nat) : Int) + 4) := by decide +kernel
theorem j_Office_cut : mz_t 5 16 = 21 ∧ (0 ≤ ((5 : Nat) : Int) + 16) ∧ mz_t 18 5 = 23 ∧ (0 ≤ ((18 : Nat) : Int) + 5) := by decide +kernel
theorem j_Office_areTwoDecks : mz_t 4 19 = 23 ∧ (0 ≤ ((4 : Nat) : Int) + 19) ∧ mz_t 11 12 = 23 ∧ (0 ≤ ((11 : Nat) : Int) + 12) ∧ mz_t 16 7 = 23 ∧ (0 ≤ ((16 : Nat) : Int) + 7) ∧ mz_t 20 4 = 24 ∧ (0 ≤ ((20 : Nat) : Int) + 4) := by decide +kernel
theorem j_Deck_moveFirst : mz_t 12 20 = 32 ∧ (0 ≤ ((12 : Nat) : Int) + 20) ∧ mz_t 29 (-20) = 9 ∧ (0 ≤ ((29 : Nat) : Int) + (-20)) ∧ mz_t 41 25 = 66 ∧ (0 ≤ ((41 : Nat) : Int) + 25) ∧ mz_t 63 (-28) = 35 ∧ (0 ≤ ((63 : Nat) : Int) + (-28)) := by decide +kernel
theorem j_Office_count : mz_t 4 13 = 17 ∧ (0 ≤ ((4 : Nat) : Int) + 13) ∧ mz_t 24 16 = 40 ∧ (0 ≤ ((24 : Nat) : Int) + 16) := by decide +kernel
theorem j_Office_pass : mz_t 4 10 = 14 ∧ (0 ≤ ((4 : Nat) : Int) + 10) ∧ mz_t 11 13 = 24 ∧ (0 ≤ ((11 : Nat) : Int) + 13) := by decide +kernel
theorem j_Sorter_passOnce : mz_t 32 51 = 83 ∧ (0 ≤ ((32 : Nat) : Int) + 51) ∧ mz_t 80 (-54) = 26 ∧ (0 ≤ ((80 : Nat) : Int) + (-54)) ∧ mz_t 92 23 = 115 ∧ (0 ≤ ((92 : Nat) : Int) + 23) ∧ mz_t 112 (-26) = 86 ∧ (0 ≤ ((112 : Nat) : Int) + (-26)) := by decide +kernel
theorem j_Sorter_fillPockets : mz_t 17 29 = 46 ∧ (0 ≤ ((17 : Nat) : Int) + 29) ∧ mz_t 43 (-32) = 11 ∧ (0 ≤ ((43 : Nat) : Int) + (-32)) := by decide +kernel
theorem j_Sorter_pocketOf : mz_t 8 10 = 18 ∧ (0 ≤ ((8 : Nat) : Int) + 10) ∧ mz_t 15 7 = 22 ∧ (0 ≤ ((15 : Nat) : Int) + 7) := by decide +kernel
theorem j_Office_zoneOf : mz_t 3 5 = 8 ∧ (0 ≤ ((3 : Nat) : Int) + 5) ∧ mz_t 11 5 = 16 ∧ (0 ≤ ((11 : Nat) : Int) + 5) ∧ mz_t 19 7 = 26 ∧ (0 ≤ ((19 : Nat) : Int) + 7) ∧ mz_t 23 4 = 27 ∧ (0 ≤ ((23 : Nat) : Int) + 4) := by decide +kernel
theorem j_Office_digitOf : mz_t 3 10 = 13 ∧ (0 ≤ ((3 : Nat) : Int) + 10) ∧ mz_t 16 10 = 26 ∧ (0 ≤ ((16 : Nat) : Int) + 10) ∧ mz_t 29 10 = 39 ∧ (0 ≤ ((29 : Nat) : Int) + 10) ∧ mz_t 42 7 = 49 ∧ (0 ≤ ((42 : Nat) : Int) + 7) ∧ mz_t 46 7 = 53 ∧ (0 ≤ ((46 : Nat) : Int) + 7) := by decide +kernel
theorem j_Sorter_stackPockets : mz_t 9 37 = 46 ∧ (0 ≤ ((9 : Nat) : Int) + 37) ∧ mz_t 22 6 = 28 ∧ (0 ≤ ((22 : Nat) : Int) + 6) ∧ mz_t 43 (-37) = 6 ∧ (0 ≤ ((43 : Nat) : Int) + (-37)) := by decide +kernel
theorem j_Office_sort : mz_t 4 11 = 15 ∧ (0 ≤ ((4 : Nat) : Int) + 11) ∧ mz_t 12 13 = 25 ∧ (0 ≤ ((12 : Nat) : Int) + 13) := by decide +kernel
theorem j_Office_isField : mz_t 1 18 = 19 ∧ (0 ≤ ((1 : Nat) : Int) + 18) ∧ mz_t 6 13 = 19 ∧ (0 ≤ ((6 : Nat) : Int) + 13) ∧ mz_t 12 7 = 19 ∧ (0 ≤ ((12 : Nat) : Int) + 7) ∧ mz_t 16 4 = 20 ∧ (0 ≤ ((16 : Nat) : Int) + 4) := by decide +kernel
theorem j_Sorter_sortOn : mz_t 6 5 = 11 ∧ (0 ≤ ((6 : Nat) : Int) + 5) ∧ mz_t 23 36 = 59 ∧ (0 ≤ ((23 : Nat) : Int) + 36) ∧ mz_t 41 12 = 53 ∧ (0 ≤ ((41 : Nat) : Int) + 12) ∧ mz_t 56 (-36) = 20 ∧ (0 ≤ ((56 : Nat) : Int) + (-36)) := by decide +kernel
theorem j_Deck_isSorted : mz_t 7 33 = 40 ∧ (0 ≤ ((7 : Nat) : Int) + 33) ∧ mz_t 29 5 = 34 ∧ (0 ≤ ((29 : Nat) : Int) + 5) ∧ mz_t 37 (-35) = 2 ∧ (0 ≤ ((37 : Nat) : Int) + (-35)) := by decide +kernel
theorem j_Card_compareOn : mz_t 6 50 = 56 ∧ (0 ≤ ((6 : Nat) : Int) + 50) ∧ mz_t 23 27 = 50 ∧ (0 ≤ ((23 : Nat) : Int) + 27) ∧ mz_t 53 (-50) = 3 ∧ (0 ≤ ((53 : Nat) : Int) + (-50)) := by decide +kernel
theorem j_Integer_compare : mz_t 2 7 = 9 ∧ (0 ≤ ((2 : Nat) : Int) + 7) ∧ mz_t 6 13 = 19 ∧ (0 ≤ ((6 : Nat) : Int) + 13) ∧ mz_t 11 7 = 18 ∧ (0 ≤ ((11 : Nat) : Int) + 7) ∧ mz_t 15 4 = 19 ∧ (0 ≤ ((15 : Nat) : Int) + 4) := by decide +kernel
theorem j_Deck_hasZoneIn : mz_t 7 28 = 35 ∧ (0 ≤ ((7 : Nat) : Int) + 28) ∧ mz_t 24 5 = 29 ∧ (0 ≤ ((24 : Nat) : Int) + 5) ∧ mz_t 32 (-30) = 2 ∧ (0 ≤ ((32 : Nat) : Int) + (-30)) := by decide +kernel
theorem j_Office_merge : mz_t 5 12 = 17 ∧ (0 ≤ ((5 : Nat) : Int) + 12) ∧ mz_t 14 13 = 27 ∧ (0 ≤ ((14 : Nat) : Int) + 13) ∧ mz_t 39 18 = 57 ∧ (0 ≤ ((39 : Nat) : Int) + 18) ∧ mz_t 54 13 = 67 ∧ (0 ≤ ((54 : Nat) : Int) + 13) := by decide +kernel
theorem j_Collator_mergeOn : mz_t 37 59 = 96 ∧ (0 ≤ ((37 : Nat) : Int) + 59) ∧ mz_t 52 22 = 74 ∧ (0 ≤ ((52 : Nat) : Int) + 22) ∧ mz_t 71 19 = 90 ∧ (0 ≤ ((71 : Nat) : Int) + 19) ∧ mz_t 93 (-60) = 33 ∧ (0 ≤ ((93 : Nat) : Int) + (-60)) := by decide +kernel
theorem j_Collator_orderOf : mz_t 5 5 = 10 ∧ (0 ≤ ((5 : Nat) : Int) + 5) ∧ mz_t 15 5 = 20 ∧ (0 ≤ ((15 : Nat) : Int) + 5) := by decide +kernel
theorem j_Deck_takeAllOf : mz_t 7 21 = 28 ∧ (0 ≤ ((7 : Nat) : Int) + 21) ∧ mz_t 25 (-23) = 2 ∧ (0 ≤ ((25 : Nat) : Int) + (-23)) := by decide +kernel
theorem j_Office_match : mz_t 5 29 = 34 ∧ (0 ≤ ((5 : Nat) : Int) + 29) ∧ mz_t 13 21 = 34 ∧ (0 ≤ ((13 : Nat) : Int) + 21) ∧ mz_t 21 13 = 34 ∧ (0 ≤ ((21 : Nat) : Int) + 13) ∧ mz_t 31 13 = 44 ∧ (0 ≤ ((31 : Nat) : Int) + 13) ∧ mz_t 57 19 = 76 ∧ (0 ≤ ((57 : Nat) : Int) + 19) ∧ mz_t 73 13 = 86 ∧ (0 ≤ ((73 : Nat) : Int) + 13) := by decide +kernel
theorem j_Collator_matchOn : mz_t 33 138 = 171 ∧ (0 ≤ ((33 : Nat) : Int) + 138) ∧ mz_t 53 53 = 106 ∧ (0 ≤ ((53 : Nat) : Int) + 53) ∧ mz_t 58 12 = 70 ∧ (0 ≤ ((58 : Nat) : Int) + 12) ∧ mz_t 67 5 = 72 ∧ (0 ≤ ((67 : Nat) : Int) + 5) ∧ mz_t 76 7 = 83 ∧ (0 ≤ ((76 : Nat) : Int) + 7) ∧ mz_t 80 7 = 87 ∧ (0 ≤ ((80 : Nat) : Int) + 7) ∧ mz_t 103 62 = 165 ∧ (0 ≤ ((103 : Nat) : Int) + 62) ∧ mz_t 108 25 = 133 ∧ (0 ≤ ((108 : Nat) : Int) + 25) ∧ mz_t 126 7 = 133 ∧ (0 ≤ ((126 : Nat) : Int) + 7) ∧ mz_t 130 4 = 134 ∧ (0 ≤ ((130 : Nat) : Int) + 4) ∧ mz_t 138 7 = 145 ∧ (0 ≤ ((138 : Nat) : Int) + 7) ∧ mz_t 142 7 = 149 ∧ (0 ≤ ((142 : Nat) : Int) + 7) ∧ mz_t 168 (-139) = 29 ∧ (0 ≤ ((168 : Nat) : Int) + (-139)) := by decide +kernel
theorem j_Office_reproduce : mz_t 4 11 = 15 ∧ (0 ≤ ((4 : Nat) : Int) + 11) ∧ mz_t 12 13 = 25 ∧ (0 ≤ ((12 : Nat) : Int) + 13) := by decide +kernel
theorem j_Reproducer_copyDeck : mz_t 9 66 = 75 ∧ (0 ≤ ((9 : Nat) : Int) + 66) ∧ mz_t 33 12 = 45 ∧ (0 ≤ ((33 : Nat) : Int) + 12) ∧ mz_t 49 12 = 61 ∧ (0 ≤ ((49 : Nat) : Int) + 12) ∧ mz_t 72 (-69) = 3 ∧ (0 ≤ ((72 : Nat) : Int) + (-69)) := by decide +kernel
theorem j_Board_bringFromCard : mz_t 11 46 = 57 ∧ (0 ≤ ((11 : Nat) : Int) + 46) ∧ mz_t 19 32 = 51 ∧ (0 ≤ ((19 : Nat) : Int) + 32) ∧ mz_t 32 19 = 51 ∧ (0 ≤ ((32 : Nat) : Int) + 19) ∧ mz_t 54 (-48) = 6 ∧ (0 ≤ ((54 : Nat) : Int) + (-48)) := by decide +kernel
theorem j_Board_isFromExit : mz_t 8 7 = 15 ∧ (0 ≤ ((8 : Nat) : Int) + 7) ∧ mz_t 12 4 = 16 ∧ (0 ≤ ((12 : Nat) : Int) + 4) := by decide +kernel
theorem j_Jacks_hasJack : mz_t 5 21 = 26 ∧ (0 ≤ ((5 : Nat) : Int) + 21) ∧ mz_t 19 7 = 26 ∧ (0 ≤ ((19 : Nat) : Int) + 7) ∧ mz_t 23 4 = 27 ∧ (0 ≤ ((23 : Nat) : Int) + 4) := by decide +kernel
theorem j_Board_signFrom : mz_t 8 17 = 25 ∧ (0 ≤ ((8 : Nat) : Int) + 17) ∧ mz_t 22 15 = 37 ∧ (0 ≤ ((22 : Nat) : Int) + 15) := by decide +kernel
theorem j_Jacks_bring : mz_t 14 18 = 32 ∧ (0 ≤ ((14 : Nat) : Int) + 18) ∧ mz_t 24 8 = 32 ∧ (0 ≤ ((24 : Nat) : Int) + 8) := by decide +kernel
theorem j_Reproducer_newCard : mz_t 13 23 = 36 ∧ (0 ≤ ((13 : Nat) : Int) + 23) ∧ mz_t 33 (-23) = 10 ∧ (0 ≤ ((33 : Nat) : Int) + (-23)) := by decide +kernel
theorem j_Jacks_signOrBlank : mz_t 7 8 = 15 ∧ (0 ≤ ((7 : Nat) : Int) + 8) ∧ mz_t 12 9 = 21 ∧ (0 ≤ ((12 : Nat) : Int) + 9) := by decide +kernel
theorem j_Office_gang : mz_t 4 17 = 21 ∧ (0 ≤ ((4 : Nat) : Int) + 17) ∧ mz_t 11 10 = 21 ∧ (0 ≤ ((11 : Nat) : Int) + 10) ∧ mz_t 18 13 = 31 ∧ (0 ≤ ((18 : Nat) : Int) + 13) := by decide +kernel
theorem j_Reproducer_punchGangs : mz_t 12 98 = 110 ∧ (0 ≤ ((12 : Nat) : Int) + 98) ∧ mz_t 34 10 = 44 ∧ (0 ≤ ((34 : Nat) : Int) + 10) ∧ mz_t 41 63 = 104 ∧ (0 ≤ ((41 : Nat) : Int) + 63) ∧ mz_t 46 58 = 104 ∧ (0 ≤ ((46 : Nat) : Int) + 58) ∧ mz_t 67 12 = 79 ∧ (0 ≤ ((67 : Nat) : Int) + 12) ∧ mz_t 86 12 = 98 ∧ (0 ≤ ((86 : Nat) : Int) + 12) ∧ mz_t 107 (-101) = 6 ∧ (0 ≤ ((107 : Nat) : Int) + (-101)) := by decide +kernel
theorem j_Board_canPunch : mz_t 7 49 = 56 ∧ (0 ≤ ((7 : Nat) : Int) + 49) ∧ mz_t 15 35 = 50 ∧ (0 ≤ ((15 : Nat) : Int) + 35) ∧ mz_t 26 24 = 50 ∧ (0 ≤ ((26 : Nat) : Int) + 24) ∧ mz_t 45 5 = 50 ∧ (0 ≤ ((45 : Nat) : Int) + 5) ∧ mz_t 53 (-51) = 2 ∧ (0 ≤ ((53 : Nat) : Int) + (-51)) := by decide +kernel
theorem j_Card_canTake : mz_t 8 13 = 21 ∧ (0 ≤ ((8 : Nat) : Int) + 13) ∧ mz_t 18 7 = 25 ∧ (0 ≤ ((18 : Nat) : Int) + 7) ∧ mz_t 22 4 = 26 ∧ (0 ≤ ((22 : Nat) : Int) + 4) := by decide +kernel
theorem j_Reproducer_punchInto : mz_t 5 37 = 42 ∧ (0 ≤ ((5 : Nat) : Int) + 37) ∧ mz_t 18 18 = 36 ∧ (0 ≤ ((18 : Nat) : Int) + 18) ∧ mz_t 39 (-37) = 2 ∧ (0 ≤ ((39 : Nat) : Int) + (-37)) := by decide +kernel
theorem j_Office_multiply : mz_t 4 25 = 29 ∧ (0 ≤ ((4 : Nat) : Int) + 25) ∧ mz_t 11 18 = 29 ∧ (0 ≤ ((11 : Nat) : Int) + 18) ∧ mz_t 18 11 = 29 ∧ (0 ≤ ((18 : Nat) : Int) + 11) ∧ mz_t 26 13 = 39 ∧ (0 ≤ ((26 : Nat) : Int) + 13) ∧ mz_t 45 12 = 57 ∧ (0 ≤ ((45 : Nat) : Int) + 12) ∧ mz_t 54 13 = 67 ∧ (0 ≤ ((54 : Nat) : Int) + 13) := by decide +kernel
theorem j_Office_isFactorField : mz_t 1 22 = 23 ∧ (0 ≤ ((1 : Nat) : Int) + 22) ∧ mz_t 7 16 = 23 ∧ (0 ≤ ((7 : Nat) : Int) + 16) ∧ mz_t 16 7 = 23 ∧ (0 ≤ ((16 : Nat) : Int) + 7) ∧ mz_t 20 4 = 24 ∧ (0 ≤ ((20 : Nat) : Int) + 4) := by decide +kernel
theorem j_Office_haveCommonColumn : mz_t 8 18 = 26 ∧ (0 ≤ ((8 : Nat) : Int) + 18) ∧ mz_t 19 7 = 26 ∧ (0 ≤ ((19 : Nat) : Int) + 7) ∧ mz_t 23 4 = 27 ∧ (0 ≤ ((23 : Nat) : Int) + 4) := by decide +kernel
theorem j_Multiplier_goThrough : mz_t 9 38 = 47 ∧ (0 ≤ ((9 : Nat) : Int) + 38) ∧ mz_t 28 13 = 41 ∧ (0 ≤ ((28 : Nat) : Int) + 13) ∧ mz_t 44 (-41) = 3 ∧ (0 ≤ ((44 : Nat) : Int) + (-41)) := by decide +kernel
theorem j_Multiplier_multiplyOn : mz_t 20 12 = 32 ∧ (0 ≤ ((20 : Nat) : Int) + 12) ∧ mz_t 29 5 = 34 ∧ (0 ≤ ((29 : Nat) : Int) + 5) ∧ mz_t 61 5 = 66 ∧ (0 ≤ ((61 : Nat) : Int) + 5) ∧ mz_t 74 5 = 79 ∧ (0 ≤ ((74 : Nat) : Int) + 5) := by decide +kernel
theorem j_Multiplier_numberIn : mz_t 14 47 = 61 ∧ (0 ≤ ((14 : Nat) : Int) + 47) ∧ mz_t 31 7 = 38 ∧ (0 ≤ ((31 : Nat) : Int) + 7) ∧ mz_t 58 (-50) = 8 ∧ (0 ≤ ((58 : Nat) : Int) + (-50)) := by decide +kernel
theorem j_Multiplier_canTakeNumber : mz_t 10 25 = 35 ∧ (0 ≤ ((10 : Nat) : Int) + 25) ∧ mz_t 24 5 = 29 ∧ (0 ≤ ((24 : Nat) : Int) + 5) ∧ mz_t 32 (-27) = 5 ∧ (0 ≤ ((32 : Nat) : Int) + (-27)) := by decide +kernel
theorem j_Multiplier_punchNumber : mz_t 10 21 = 31 ∧ (0 ≤ ((10 : Nat) : Int) + 21) ∧ mz_t 28 (-23) = 5 ∧ (0 ≤ ((28 : Nat) : Int) + (-23)) := by decide +kernel
theorem j_Office_tabulate : mz_t 4 10 = 14 ∧ (0 ≤ ((4 : Nat) : Int) + 10) ∧ mz_t 11 13 = 24 ∧ (0 ≤ ((11 : Nat) : Int) + 13) := by decide +kernel
theorem j_Tabulator_goThrough : mz_t 23 82 = 105 ∧ (0 ≤ ((23 : Nat) : Int) + 82) ∧ mz_t 36 7 = 43 ∧ (0 ≤ ((36 : Nat) : Int) + 7) ∧ mz_t 40 17 = 57 ∧ (0 ≤ ((40 : Nat) : Int) + 17) ∧ mz_t 74 12 = 86 ∧ (0 ≤ ((74 : Nat) : Int) + 12) ∧ mz_t 102 (-85) = 17 ∧ (0 ≤ ((102 : Nat) : Int) + (-85)) := by decide +kernel
theorem j_Board_isListing : mz_t 7 22 = 29 ∧ (0 ≤ ((7 : Nat) : Int) + 22) ∧ mz_t 18 5 = 23 ∧ (0 ≤ ((18 : Nat) : Int) + 5) ∧ mz_t 26 (-24) = 2 ∧ (0 ≤ ((26 : Nat) : Int) + (-24)) := by decide +kernel
theorem j_Board_levelsBroken : mz_t 11 101 = 112 ∧ (0 ≤ ((11 : Nat) : Int) + 101) ∧ mz_t 23 19 = 42 ∧ (0 ≤ ((23 : Nat) : Int) + 19) ∧ mz_t 35 7 = 42 ∧ (0 ≤ ((35 : Nat) : Int) + 7) ∧ mz_t 39 4 = 43 ∧ (0 ≤ ((39 : Nat) : Int) + 4) ∧ mz_t 47 59 = 106 ∧ (0 ≤ ((47 : Nat) : Int) + 59) ∧ mz_t 59 47 = 106 ∧ (0 ≤ ((59 : Nat) : Int) + 47) ∧ mz_t 86 20 = 106 ∧ (0 ≤ ((86 : Nat) : Int) + 20) ∧ mz_t 109 (-104) = 5 ∧ (0 ≤ ((109 : Nat) : Int) + (-104)) := by decide +kernel
theorem j_Tabulator_faultOfCard : mz_t 24 28 = 52 ∧ (0 ≤ ((24 : Nat) : Int) + 28) ∧ mz_t 29 13 = 42 ∧ (0 ≤ ((29 : Nat) : Int) + 13) ∧ mz_t 39 13 = 52 ∧ (0 ≤ ((39 : Nat) : Int) + 13) ∧ mz_t 49 5 = 54 ∧ (0 ≤ ((49 : Nat) : Int) + 5) ∧ mz_t 60 5 = 65 ∧ (0 ≤ ((60 : Nat) : Int) + 5) ∧ mz_t 72 7 = 79 ∧ (0 ≤ ((72 : Nat) : Int) + 7) ∧ mz_t 76 4 = 80 ∧ (0 ≤ ((76 : Nat) : Int) + 4) ∧ mz_t 92 7 = 99 ∧ (0 ≤ ((92 : Nat) : Int) + 7) ∧ mz_t 96 4 = 100 ∧ (0 ≤ ((96 : Nat) : Int) + 4) := by decide +kernel
theorem j_Tabulator_totalsClash : mz_t 4 34 = 38 ∧ (0 ≤ ((4 : Nat) : Int) + 34) ∧ mz_t 27 5 = 32 ∧ (0 ≤ ((27 : Nat) : Int) + 5) ∧ mz_t 35 (-33) = 2 ∧ (0 ≤ ((35 : Nat) : Int) + (-33)) := by decide +kernel
theorem j_Board_bringFromCounters : mz_t 13 85 = 98 ∧ (0 ≤ ((13 : Nat) : Int) + 85) ∧ mz_t 22 70 = 92 ∧ (0 ≤ ((22 : Nat) : Int) + 70) ∧ mz_t 36 56 = 92 ∧ (0 ≤ ((36 : Nat) : Int) + 56) ∧ mz_t 66 26 = 92 ∧ (0 ≤ ((66 : Nat) : Int) + 26) ∧ mz_t 95 (-88) = 7 ∧ (0 ≤ ((95 : Nat) : Int) + (-88)) := by decide +kernel
theorem j_Board_wheelSign : mz_t 9 12 = 21 ∧ (0 ≤ ((9 : Nat) : Int) + 12) ∧ mz_t 13 8 = 21 ∧ (0 ≤ ((13 : Nat) : Int) + 8) ∧ mz_t 18 10 = 28 ∧ (0 ≤ ((18 : Nat) : Int) + 10) := by decide +kernel
theorem j_Tabulator_isAnyOverrun : mz_t 4 50 = 54 ∧ (0 ≤ ((4 : Nat) : Int) + 50) ∧ mz_t 14 7 = 21 ∧ (0 ≤ ((14 : Nat) : Int) + 7) ∧ mz_t 18 9 = 27 ∧ (0 ≤ ((18 : Nat) : Int) + 9) ∧ mz_t 43 5 = 48 ∧ (0 ≤ ((43 : Nat) : Int) + 5) ∧ mz_t 51 (-49) = 2 ∧ (0 ≤ ((51 : Nat) : Int) + (-49)) := by decide +kernel
theorem j_Tabulator_entered : mz_t 7 42 = 49 ∧ (0 ≤ ((7 : Nat) : Int) + 42) ∧ mz_t 46 (-42) = 4 ∧ (0 ≤ ((46 : Nat) : Int) + (-42)) := by decide +kernel
theorem j_Tabulator_totalLines : mz_t 6 20 = 26 ∧ (0 ≤ ((6 : Nat) : Int) + 20) ∧ mz_t 14 6 = 20 ∧ (0 ≤ ((14 : Nat) : Int) + 6) ∧ mz_t 23 (-19) = 4 ∧ (0 ≤ ((23 : Nat) : Int) + (-19)) := by decide +kernel
theorem j_Board_hasCounterOf : mz_t 4 21 = 25 ∧ (0 ≤ ((4 : Nat) : Int) + 21) ∧ mz_t 14 5 = 19 ∧ (0 ≤ ((14 : Nat) : Int) + 5) ∧ mz_t 22 (-20) = 2 ∧ (0 ≤ ((22 : Nat) : Int) + (-20)) := by decide +kernel
theorem j_Paper_hasRoomFor : mz_t 8 7 = 15 ∧ (0 ≤ ((8 : Nat) : Int) + 7) ∧ mz_t 12 4 = 16 ∧ (0 ≤ ((12 : Nat) : Int) + 4) := by decide +kernel
theorem j_Tabulator_doTotals : mz_t 4 47 = 51 ∧ (0 ≤ ((4 : Nat) : Int) + 47) ∧ mz_t 12 33 = 45 ∧ (0 ≤ ((12 : Nat) : Int) + 33) ∧ mz_t 48 (-46) = 2 ∧ (0 ≤ ((48 : Nat) : Int) + (-46)) := by decide +kernel
theorem j_Paper_print : mz_t 5 25 = 30 ∧ (0 ≤ ((5 : Nat) : Int) + 25) ∧ mz_t 27 (-25) = 2 ∧ (0 ≤ ((27 : Nat) : Int) + (-25)) := by decide +kernel
theorem j_Tabulator_clearCounters : mz_t 4 26 = 30 ∧ (0 ≤ ((4 : Nat) : Int) + 26) ∧ mz_t 14 10 = 24 ∧ (0 ≤ ((14 : Nat) : Int) + 10) ∧ mz_t 27 (-25) = 2 ∧ (0 ≤ ((27 : Nat) : Int) + (-25)) := by decide +kernel
theorem j_Tabulator_doCard : mz_t 1 14 = 15 ∧ (0 ≤ ((1 : Nat) : Int) + 14) ∧ mz_t 19 23 = 42 ∧ (0 ≤ ((19 : Nat) : Int) + 23) ∧ mz_t 39 (-22) = 17 ∧ (0 ≤ ((39 : Nat) : Int) + (-22)) := by decide +kernel
theorem j_Tabulator_finish : mz_t 1 29 = 30 ∧ (0 ≤ ((1 : Nat) : Int) + 29) ∧ mz_t 13 11 = 24 ∧ (0 ≤ ((13 : Nat) : Int) + 11) := by decide +kernel
theorem j_Tabulator_faultOfLastTotals : mz_t 6 5 = 11 ∧ (0 ≤ ((6 : Nat) : Int) + 5) ∧ mz_t 23 7 = 30 ∧ (0 ≤ ((23 : Nat) : Int) + 7) ∧ mz_t 27 4 = 31 ∧ (0 ≤ ((27 : Nat) : Int) + 4) := by decide +kernel
theorem j_Office_sign : mz_t 4 27 = 31 ∧ (0 ≤ ((4 : Nat) : Int) + 27) ∧ mz_t 8 23 = 31 ∧ (0 ≤ ((8 : Nat) : Int) + 23) ∧ mz_t 21 10 = 31 ∧ (0 ≤ ((21 : Nat) : Int) + 10) ∧ mz_t 28 13 = 41 ∧ (0 ≤ ((28 : Nat) : Int) + 13) := by decide +kernel
theorem j_Office_printed : mz_t 1 27 = 28 ∧ (0 ≤ ((1 : Nat) : Int) + 27) ∧ mz_t 15 13 = 28 ∧ (0 ≤ ((15 : Nat) : Int) + 13) ∧ mz_t 19 9 = 28 ∧ (0 ≤ ((19 : Nat) : Int) + 9) ∧ mz_t 25 13 = 38 ∧ (0 ≤ ((25 : Nat) : Int) + 13) := by decide +kernel
theorem j_Office_counter : mz_t 4 13 = 17 ∧ (0 ≤ ((4 : Nat) : Int) + 13) := by decide +kernel
theorem j_Model_init : mz_t 114 16 = 130 ∧ (0 ≤ ((114 : Nat) : Int) + 16) ∧ mz_t 127 (-16) = 111 ∧ (0 ≤ ((127 : Nat) : Int) + (-16)) := by decide +kernel
theorem j_Model_card : mz_t 9 17 = 26 ∧ (0 ≤ ((9 : Nat) : Int) + 17) ∧ mz_t 19 7 = 26 ∧ (0 ≤ ((19 : Nat) : Int) + 7) ∧ mz_t 23 4 = 27 ∧ (0 ≤ ((23 : Nat) : Int) + 4) ∧ mz_t 36 57 = 93 ∧ (0 ≤ ((36 : Nat) : Int) + 57) ∧ mz_t 41 43 = 84 ∧ (0 ≤ ((41 : Nat) : Int) + 43) ∧ mz_t 48 7 = 55 ∧ (0 ≤ ((48 : Nat) : Int) + 7) ∧ mz_t 52 5 = 57 ∧ (0 ≤ ((52 : Nat) : Int) + 5) ∧ mz_t 77 7 = 84 ∧ (0 ≤ ((77 : Nat) : Int) + 7) ∧ mz_t 81 4 = 85 ∧ (0 ≤ ((81 : Nat) : Int) + 4) ∧ mz_t 90 (-58) = 32 ∧ (0 ≤ ((90 : Nat) : Int) + (-58)) ∧ mz_t 95 5 = 100 ∧ (0 ≤ ((95 : Nat) : Int) + 5) ∧ mz_t 113 53 = 166 ∧ (0 ≤ ((113 : Nat) : Int) + 53) ∧ mz_t 132 7 = 139 ∧ (0 ≤ ((132 : Nat) : Int) + 7) ∧ mz_t 136 5 = 141 ∧ (0 ≤ ((136 : Nat) : Int) + 5) ∧ mz_t 163 (-54) = 109 ∧ (0 ≤ ((163 : Nat) : Int) + (-54)) := by decide +kernel
theorem j_Model_isDeck : mz_t 1 13 = 14 ∧ (0 ≤ ((1 : Nat) : Int) + 13) ∧ mz_t 7 7 = 14 ∧ (0 ≤ ((7 : Nat) : Int) + 7) ∧ mz_t 11 4 = 15 ∧ (0 ≤ ((11 : Nat) : Int) + 4) := by decide +kernel
theorem j_Model_isSign : mz_t 3 27 = 30 ∧ (0 ≤ ((3 : Nat) : Int) + 27) ∧ mz_t 9 9 = 18 ∧ (0 ≤ ((9 : Nat) : Int) + 9) ∧ mz_t 15 15 = 30 ∧ (0 ≤ ((15 : Nat) : Int) + 15) ∧ mz_t 21 13 = 34 ∧ (0 ≤ ((21 : Nat) : Int) + 13) ∧ mz_t 27 7 = 34 ∧ (0 ≤ ((27 : Nat) : Int) + 7) ∧ mz_t 31 4 = 35 ∧ (0 ≤ ((31 : Nat) : Int) + 4) := by decide +kernel
theorem j_Model_newCard : mz_t 5 25 = 30 ∧ (0 ≤ ((5 : Nat) : Int) + 25) ∧ mz_t 27 (-25) = 2 ∧ (0 ≤ ((27 : Nat) : Int) + (-25)) := by decide +kernel
theorem j_Model_wire : mz_t 9 28 = 37 ∧ (0 ≤ ((9 : Nat) : Int) + 28) ∧ mz_t 16 21 = 37 ∧ (0 ≤ ((16 : Nat) : Int) + 21) ∧ mz_t 23 14 = 37 ∧ (0 ≤ ((23 : Nat) : Int) + 14) ∧ mz_t 34 5 = 39 ∧ (0 ≤ ((34 : Nat) : Int) + 5) ∧ mz_t 58 33 = 91 ∧ (0 ≤ ((58 : Nat) : Int) + 33) ∧ mz_t 69 16 = 85 ∧ (0 ≤ ((69 : Nat) : Int) + 16) ∧ mz_t 80 5 = 85 ∧ (0 ≤ ((80 : Nat) : Int) + 5) ∧ mz_t 88 (-43) = 45 ∧ (0 ≤ ((88 : Nat) : Int) + (-43)) := by decide +kernel
theorem j_Model_isBoard : mz_t 1 12 = 13 ∧ (0 ≤ ((1 : Nat) : Int) + 12) ∧ mz_t 6 7 = 13 ∧ (0 ≤ ((6 : Nat) : Int) + 7) ∧ mz_t 10 4 = 14 ∧ (0 ≤ ((10 : Nat) : Int) + 4) := by decide +kernel
theorem j_Model_isFrom : mz_t 1 9 = 10 ∧ (0 ≤ ((1 : Nat) : Int) + 9) ∧ mz_t 7 15 = 22 ∧ (0 ≤ ((7 : Nat) : Int) + 15) ∧ mz_t 13 13 = 26 ∧ (0 ≤ ((13 : Nat) : Int) + 13) ∧ mz_t 19 7 = 26 ∧ (0 ≤ ((19 : Nat) : Int) + 7) ∧ mz_t 23 4 = 27 ∧ (0 ≤ ((23 : Nat) : Int) + 4) := by decide +kernel
theorem j_Model_isTo : mz_t 1 9 = 10 ∧ (0 ≤ ((1 : Nat) : Int) + 9) ∧ mz_t 7 39 = 46 ∧ (0 ≤ ((7 : Nat) : Int) + 39) ∧ mz_t 13 9 = 22 ∧ (0 ≤ ((13 : Nat) : Int) + 9) ∧ mz_t 19 27 = 46 ∧ (0 ≤ ((19 : Nat) : Int) + 27) ∧ mz_t 25 9 = 34 ∧ (0 ≤ ((25 : Nat) : Int) + 9) ∧ mz_t 31 15 = 46 ∧ (0 ≤ ((31 : Nat) : Int) + 15) ∧ mz_t 37 13 = 50 ∧ (0 ≤ ((37 : Nat) : Int) + 13) ∧ mz_t 43 7 = 50 ∧ (0 ≤ ((43 : Nat) : Int) + 7) ∧ mz_t 47 4 = 51 ∧ (0 ≤ ((47 : Nat) : Int) + 4) := by decide +kernel
theorem j_Model_strip : mz_t 9 5 = 14 ∧ (0 ≤ ((9 : Nat) : Int) + 5) ∧ mz_t 32 20 = 52 ∧ (0 ≤ ((32 : Nat) : Int) + 20) ∧ mz_t 49 (-19) = 30 ∧ (0 ≤ ((49 : Nat) : Int) + (-19)) := by decide +kernel
theorem j_Model_level : mz_t 9 21 = 30 ∧ (0 ≤ ((9 : Nat) : Int) + 21) ∧ mz_t 13 17 = 30 ∧ (0 ≤ ((13 : Nat) : Int) + 17) ∧ mz_t 18 12 = 30 ∧ (0 ≤ ((18 : Nat) : Int) + 12) ∧ mz_t 22 8 = 30 ∧ (0 ≤ ((22 : Nat) : Int) + 8) ∧ mz_t 27 5 = 32 ∧ (0 ≤ ((27 : Nat) : Int) + 5) := by decide +kernel
theorem j_Model_pass : mz_t 5 14 = 19 ∧ (0 ≤ ((5 : Nat) : Int) + 14) ∧ mz_t 12 7 = 19 ∧ (0 ≤ ((12 : Nat) : Int) + 7) ∧ mz_t 16 4 = 20 ∧ (0 ≤ ((16 : Nat) : Int) + 4) ∧ mz_t 27 7 = 34 ∧ (0 ≤ ((27 : Nat) : Int) + 7) ∧ mz_t 31 10 = 41 ∧ (0 ≤ ((31 : Nat) : Int) + 10) := by decide +kernel
theorem j_Model_isColumn : mz_t 1 13 = 14 ∧ (0 ≤ ((1 : Nat) : Int) + 13) ∧ mz_t 7 7 = 14 ∧ (0 ≤ ((7 : Nat) : Int) + 7) ∧ mz_t 11 4 = 15 ∧ (0 ≤ ((11 : Nat) : Int) + 4) := by decide +kernel
theorem j_Model_sift : mz_t 13 86 = 99 ∧ (0 ≤ ((13 : Nat) : Int) + 86) ∧ mz_t 31 45 = 76 ∧ (0 ≤ ((31 : Nat) : Int) + 45) ∧ mz_t 49 21 = 70 ∧ (0 ≤ ((49 : Nat) : Int) + 21) ∧ mz_t 73 (-50) = 23 ∧ (0 ≤ ((73 : Nat) : Int) + (-50)) ∧ mz_t 82 7 = 89 ∧ (0 ≤ ((82 : Nat) : Int) + 7) ∧ mz_t 86 4 = 90 ∧ (0 ≤ ((86 : Nat) : Int) + 4) ∧ mz_t 96 (-87) = 9 ∧ (0 ≤ ((96 : Nat) : Int) + (-87)) ∧ mz_t 106 29 = 135 ∧ (0 ≤ ((106 : Nat) : Int) + 29) ∧ mz_t 132 (-30) = 102 ∧ (0 ≤ ((132 : Nat) : Int) + (-30)) := by decide +kernel
theorem j_Model_keyOf : mz_t 1 15 = 16 ∧ (0 ≤ ((1 : Nat) : Int) + 15) ∧ mz_t 13 14 = 27 ∧ (0 ≤ ((13 : Nat) : Int) + 14) := by decide +kernel
theorem j_Model_zoneOf : mz_t 3 7 = 10 ∧ (0 ≤ ((3 : Nat) : Int) + 7) ∧ mz_t 7 24 = 31 ∧ (0 ≤ ((7 : Nat) : Int) + 24) ∧ mz_t 13 7 = 20 ∧ (0 ≤ ((13 : Nat) : Int) + 7) ∧ mz_t 17 14 = 31 ∧ (0 ≤ ((17 : Nat) : Int) + 14) ∧ mz_t 23 7 = 30 ∧ (0 ≤ ((23 : Nat) : Int) + 7) ∧ mz_t 27 4 = 31 ∧ (0 ≤ ((27 : Nat) : Int) + 4) := by decide +kernel
theorem j_Model_digitOf : mz_t 3 5 = 8 ∧ (0 ≤ ((3 : Nat) : Int) + 5) ∧ mz_t 11 10 = 21 ∧ (0 ≤ ((11 : Nat) : Int) + 10) ∧ mz_t 18 33 = 51 ∧ (0 ≤ ((18 : Nat) : Int) + 33) ∧ mz_t 24 10 = 34 ∧ (0 ≤ ((24 : Nat) : Int) + 10) ∧ mz_t 31 20 = 51 ∧ (0 ≤ ((31 : Nat) : Int) + 20) ∧ mz_t 37 10 = 47 ∧ (0 ≤ ((37 : Nat) : Int) + 10) ∧ mz_t 44 7 = 51 ∧ (0 ≤ ((44 : Nat) : Int) + 7) := by decide +kernel
theorem j_Model_sort : mz_t 5 15 = 20 ∧ (0 ≤ ((5 : Nat) : Int) + 15) ∧ mz_t 13 7 = 20 ∧ (0 ≤ ((13 : Nat) : Int) + 7) ∧ mz_t 17 4 = 21 ∧ (0 ≤ ((17 : Nat) : Int) + 4) ∧ mz_t 28 13 = 41 ∧ (0 ≤ ((28 : Nat) : Int) + 13) ∧ mz_t 38 5 = 43 ∧ (0 ≤ ((38 : Nat) : Int) + 5) ∧ mz_t 52 78 = 130 ∧ (0 ≤ ((52 : Nat) : Int) + 78) ∧ mz_t 69 40 = 109 ∧ (0 ≤ ((69 : Nat) : Int) + 40) ∧ mz_t 74 22 = 96 ∧ (0 ≤ ((74 : Nat) : Int) + 22) ∧ mz_t 93 7 = 100 ∧ (0 ≤ ((93 : Nat) : Int) + 7) ∧ mz_t 97 4 = 101 ∧ (0 ≤ ((97 : Nat) : Int) + 4) ∧ mz_t 106 (-45) = 61 ∧ (0 ≤ ((106 : Nat) : Int) + (-45)) ∧ mz_t 113 7 = 120 ∧ (0 ≤ ((113 : Nat) : Int) + 7) ∧ mz_t 117 4 = 121 ∧ (0 ≤ ((117 : Nat) : Int) + 4) ∧ mz_t 127 (-78) = 49 ∧ (0 ≤ ((127 : Nat) : Int) + (-78)) ∧ mz_t 141 28 = 169 ∧ (0 ≤ ((141 : Nat) : Int) + 28) ∧ mz_t 166 (-33) = 133 ∧ (0 ≤ ((166 : Nat) : Int) + (-33)) ∧ mz_t 180 29 = 209 ∧ (0 ≤ ((180 : Nat) : Int) + 29) ∧ mz_t 206 (-34) = 172 ∧ (0 ≤ ((206 : Nat) : Int) + (-34)) := by decide +kernel
theorem j_Model_isField : mz_t 1 18 = 19 ∧ (0 ≤ ((1 : Nat) : Int) + 18) ∧ mz_t 6 13 = 19 ∧ (0 ≤ ((6 : Nat) : Int) + 13) ∧ mz_t 12 7 = 19 ∧ (0 ≤ ((12 : Nat) : Int) + 7) ∧ mz_t 16 4 = 20 ∧ (0 ≤ ((16 : Nat) : Int) + 4) := by decide +kernel
theorem j_Model_isSorted : mz_t 14 46 = 60 ∧ (0 ≤ ((14 : Nat) : Int) + 46) ∧ mz_t 19 32 = 51 ∧ (0 ≤ ((19 : Nat) : Int) + 32) ∧ mz_t 44 7 = 51 ∧ (0 ≤ ((44 : Nat) : Int) + 7) ∧ mz_t 48 4 = 52 ∧ (0 ≤ ((48 : Nat) : Int) + 4) ∧ mz_t 57 (-51) = 6 ∧ (0 ≤ ((57 : Nat) : Int) + (-51)) := by decide +kernel
theorem j_Model_compare : mz_t 7 48 = 55 ∧ (0 ≤ ((7 : Nat) : Int) + 48) ∧ mz_t 24 25 = 49 ∧ (0 ≤ ((24 : Nat) : Int) + 25) ∧ mz_t 52 (-49) = 3 ∧ (0 ≤ ((52 : Nat) : Int) + (-49)) := by decide +kernel
theorem j_Model_putIn : mz_t 5 37 = 42 ∧ (0 ≤ ((5 : Nat) : Int) + 37) ∧ mz_t 23 19 = 42 ∧ (0 ≤ ((23 : Nat) : Int) + 19) ∧ mz_t 39 (-36) = 3 ∧ (0 ≤ ((39 : Nat) : Int) + (-36)) := by decide +kernel
theorem j_Model_merge : mz_t 4 28 = 32 ∧ (0 ≤ ((4 : Nat) : Int) + 28) ∧ mz_t 11 21 = 32 ∧ (0 ≤ ((11 : Nat) : Int) + 21) ∧ mz_t 16 16 = 32 ∧ (0 ≤ ((16 : Nat) : Int) + 16) ∧ mz_t 25 7 = 32 ∧ (0 ≤ ((25 : Nat) : Int) + 7) ∧ mz_t 29 4 = 33 ∧ (0 ≤ ((29 : Nat) : Int) + 4) ∧ mz_t 38 7 = 45 ∧ (0 ≤ ((38 : Nat) : Int) + 7) ∧ mz_t 42 30 = 72 ∧ (0 ≤ ((42 : Nat) : Int) + 30) ∧ mz_t 53 14 = 67 ∧ (0 ≤ ((53 : Nat) : Int) + 14) ∧ mz_t 64 7 = 71 ∧ (0 ≤ ((64 : Nat) : Int) + 7) ∧ mz_t 68 4 = 72 ∧ (0 ≤ ((68 : Nat) : Int) + 4) ∧ mz_t 79 5 = 84 ∧ (0 ≤ ((79 : Nat) : Int) + 5) ∧ mz_t 95 24 = 119 ∧ (0 ≤ ((95 : Nat) : Int) + 24) ∧ mz_t 116 (-29) = 87 ∧ (0 ≤ ((116 : Nat) : Int) + (-29)) ∧ mz_t 138 32 = 170 ∧ (0 ≤ ((138 : Nat) : Int) + 32) ∧ mz_t 167 (-37) = 130 ∧ (0 ≤ ((167 : Nat) : Int) + (-37)) ∧ mz_t 177 29 = 206 ∧ (0 ≤ ((177 : Nat) : Int) + 29) ∧ mz_t 203 (-30) = 173 ∧ (0 ≤ ((203 : Nat) : Int) + (-30)) := by decide +kernel
theorem j_Model_match : mz_t 4 46 = 50 ∧ (0 ≤ ((4 : Nat) : Int) + 46) ∧ mz_t 11 39 = 50 ∧ (0 ≤ ((11 : Nat) : Int) + 39) ∧ mz_t 18 32 = 50 ∧ (0 ≤ ((18 : Nat) : Int) + 32) ∧ mz_t 23 27 = 50 ∧ (0 ≤ ((23 : Nat) : Int) + 27) ∧ mz_t 28 22 = 50 ∧ (0 ≤ ((28 : Nat) : Int) + 22) ∧ mz_t 33 17 = 50 ∧ (0 ≤ ((33 : Nat) : Int) + 17) ∧ mz_t 43 7 = 50 ∧ (0 ≤ ((43 : Nat) : Int) + 7) ∧ mz_t 47 4 = 51 ∧ (0 ≤ ((47 : Nat) : Int) + 4) ∧ mz_t 56 7 = 63 ∧ (0 ≤ ((56 : Nat) : Int) + 7) ∧ mz_t 60 32 = 92 ∧ (0 ≤ ((60 : Nat) : Int) + 32) ∧ mz_t 72 15 = 87 ∧ (0 ≤ ((72 : Nat) : Int) + 15) ∧ mz_t 84 7 = 91 ∧ (0 ≤ ((84 : Nat) : Int) + 7) ∧ mz_t 88 4 = 92 ∧ (0 ≤ ((88 : Nat) : Int) + 4) ∧ mz_t 99 5 = 104 ∧ (0 ≤ ((99 : Nat) : Int) + 5) ∧ mz_t 160 21 = 181 ∧ (0 ≤ ((160 : Nat) : Int) + 21) ∧ mz_t 178 (-22) = 156 ∧ (0 ≤ ((178 : Nat) : Int) + (-22)) := by decide +kernel
theorem j_Model_take : mz_t 15 50 = 65 ∧ (0 ≤ ((15 : Nat) : Int) + 50) ∧ mz_t 33 26 = 59 ∧ (0 ≤ ((33 : Nat) : Int) + 26) ∧ mz_t 62 (-55) = 7 ∧ (0 ≤ ((62 : Nat) : Int) + (-55)) := by decide +kernel
theorem j_Model_hasKey : mz_t 14 39 = 53 ∧ (0 ≤ ((14 : Nat) : Int) + 39) ∧ mz_t 19 21 = 40 ∧ (0 ≤ ((19 : Nat) : Int) + 21) ∧ mz_t 37 7 = 44 ∧ (0 ≤ ((37 : Nat) : Int) + 7) ∧ mz_t 41 4 = 45 ∧ (0 ≤ ((41 : Nat) : Int) + 4) ∧ mz_t 50 (-44) = 6 ∧ (0 ≤ ((50 : Nat) : Int) + (-44)) := by decide +kernel
theorem j_Model_leave : mz_t 14 79 = 93 ∧ (0 ≤ ((14 : Nat) : Int) + 79) ∧ mz_t 26 38 = 64 ∧ (0 ≤ ((26 : Nat) : Int) + 38) ∧ mz_t 31 20 = 51 ∧ (0 ≤ ((31 : Nat) : Int) + 20) ∧ mz_t 48 7 = 55 ∧ (0 ≤ ((48 : Nat) : Int) + 7) ∧ mz_t 52 4 = 56 ∧ (0 ≤ ((52 : Nat) : Int) + 4) ∧ mz_t 61 (-38) = 23 ∧ (0 ≤ ((61 : Nat) : Int) + (-38)) ∧ mz_t 66 21 = 87 ∧ (0 ≤ ((66 : Nat) : Int) + 21) ∧ mz_t 90 (-84) = 6 ∧ (0 ≤ ((90 : Nat) : Int) + (-84)) ∧ mz_t 108 29 = 137 ∧ (0 ≤ ((108 : Nat) : Int) + 29) ∧ mz_t 134 (-30) = 104 ∧ (0 ≤ ((134 : Nat) : Int) + (-30)) := by decide +kernel
theorem j_Model_reproduce : mz_t 5 26 = 31 ∧ (0 ≤ ((5 : Nat) : Int) + 26) ∧ mz_t 12 19 = 31 ∧ (0 ≤ ((12 : Nat) : Int) + 19) ∧ mz_t 19 12 = 31 ∧ (0 ≤ ((19 : Nat) : Int) + 12) ∧ mz_t 24 7 = 31 ∧ (0 ≤ ((24 : Nat) : Int) + 7) ∧ mz_t 28 4 = 32 ∧ (0 ≤ ((28 : Nat) : Int) + 4) ∧ mz_t 39 5 = 44 ∧ (0 ≤ ((39 : Nat) : Int) + 5) ∧ mz_t 55 162 = 217 ∧ (0 ≤ ((55 : Nat) : Int) + 162) ∧ mz_t 68 40 = 108 ∧ (0 ≤ ((68 : Nat) : Int) + 40) ∧ mz_t 73 22 = 95 ∧ (0 ≤ ((73 : Nat) : Int) + 22) ∧ mz_t 92 7 = 99 ∧ (0 ≤ ((92 : Nat) : Int) + 7) ∧ mz_t 96 4 = 100 ∧ (0 ≤ ((96 : Nat) : Int) + 4) ∧ mz_t 105 (-41) = 64 ∧ (0 ≤ ((105 : Nat) : Int) + (-41)) ∧ mz_t 110 13 = 123 ∧ (0 ≤ ((110 : Nat) : Int) + 13) ∧ mz_t 120 20 = 140 ∧ (0 ≤ ((120 : Nat) : Int) + 20) ∧ mz_t 126 7 = 133 ∧ (0 ≤ ((126 : Nat) : Int) + 7) ∧ mz_t 130 4 = 134 ∧ (0 ≤ ((130 : Nat) : Int) + 4) ∧ mz_t 153 51 = 204 ∧ (0 ≤ ((153 : Nat) : Int) + 51) ∧ mz_t 186 8 = 194 ∧ (0 ≤ ((186 : Nat) : Int) + 8) ∧ mz_t 191 5 = 196 ∧ (0 ≤ ((191 : Nat) : Int) + 5) ∧ mz_t 201 (-52) = 149 ∧ (0 ≤ ((201 : Nat) : Int) + (-52)) ∧ mz_t 214 (-167) = 47 ∧ (0 ≤ ((214 : Nat) : Int) + (-167)) := by decide +kernel
theorem j_Model_arrives : mz_t 22 65 = 87 ∧ (0 ≤ ((22 : Nat) : Int) + 65) ∧ mz_t 33 13 = 46 ∧ (0 ≤ ((33 : Nat) : Int) + 13) ∧ mz_t 43 4 = 47 ∧ (0 ≤ ((43 : Nat) : Int) + 4) ∧ mz_t 51 10 = 61 ∧ (0 ≤ ((51 : Nat) : Int) + 10) ∧ mz_t 58 8 = 66 ∧ (0 ≤ ((58 : Nat) : Int) + 8) ∧ mz_t 63 16 = 79 ∧ (0 ≤ ((63 : Nat) : Int) + 16) ∧ mz_t 69 8 = 77 ∧ (0 ≤ ((69 : Nat) : Int) + 8) ∧ mz_t 74 5 = 79 ∧ (0 ≤ ((74 : Nat) : Int) + 5) ∧ mz_t 84 (-75) = 9 ∧ (0 ≤ ((84 : Nat) : Int) + (-75)) := by decide +kernel
theorem j_Model_brings : mz_t 10 20 = 30 ∧ (0 ≤ ((10 : Nat) : Int) + 20) ∧ mz_t 14 7 = 21 ∧ (0 ≤ ((14 : Nat) : Int) + 7) ∧ mz_t 18 26 = 44 ∧ (0 ≤ ((18 : Nat) : Int) + 26) ∧ mz_t 27 17 = 44 ∧ (0 ≤ ((27 : Nat) : Int) + 17) ∧ mz_t 33 10 = 43 ∧ (0 ≤ ((33 : Nat) : Int) + 10) ∧ mz_t 40 4 = 44 ∧ (0 ≤ ((40 : Nat) : Int) + 4) := by decide +kernel
theorem j_Model_gang : mz_t 5 21 = 26 ∧ (0 ≤ ((5 : Nat) : Int) + 21) ∧ mz_t 12 14 = 26 ∧ (0 ≤ ((12 : Nat) : Int) + 14) ∧ mz_t 19 7 = 26 ∧ (0 ≤ ((19 : Nat) : Int) + 7) ∧ mz_t 23 4 = 27 ∧ (0 ≤ ((23 : Nat) : Int) + 4) ∧ mz_t 34 5 = 39 ∧ (0 ≤ ((34 : Nat) : Int) + 5) ∧ mz_t 53 133 = 186 ∧ (0 ≤ ((53 : Nat) : Int) + 133) ∧ mz_t 76 10 = 86 ∧ (0 ≤ ((76 : Nat) : Int) + 10) ∧ mz_t 83 97 = 180 ∧ (0 ≤ ((83 : Nat) : Int) + 97) ∧ mz_t 88 92 = 180 ∧ (0 ≤ ((88 : Nat) : Int) + 92) ∧ mz_t 104 12 = 116 ∧ (0 ≤ ((104 : Nat) : Int) + 12) ∧ mz_t 123 57 = 180 ∧ (0 ≤ ((123 : Nat) : Int) + 57) ∧ mz_t 151 19 = 170 ∧ (0 ≤ ((151 : Nat) : Int) + 19) ∧ mz_t 167 6 = 173 ∧ (0 ≤ ((167 : Nat) : Int) + 6) ∧ mz_t 177 (-58) = 119 ∧ (0 ≤ ((177 : Nat) : Int) + (-58)) ∧ mz_t 183 (-138) = 45 ∧ (0 ≤ ((183 : Nat) : Int) + (-138)) := by decide +kernel
theorem j_Model_faultOfGang : mz_t 25 105 = 130 ∧ (0 ≤ ((25 : Nat) : Int) + 105) ∧ mz_t 46 78 = 124 ∧ (0 ≤ ((46 : Nat) : Int) + 78) ∧ mz_t 51 73 = 124 ∧ (0 ≤ ((51 : Nat) : Int) + 73) ∧ mz_t 70 17 = 87 ∧ (0 ≤ ((70 : Nat) : Int) + 17) ∧ mz_t 77 14 = 91 ∧ (0 ≤ ((77 : Nat) : Int) + 14) ∧ mz_t 84 7 = 91 ∧ (0 ≤ ((84 : Nat) : Int) + 7) ∧ mz_t 88 4 = 92 ∧ (0 ≤ ((88 : Nat) : Int) + 4) ∧ mz_t 96 21 = 117 ∧ (0 ≤ ((96 : Nat) : Int) + 21) ∧ mz_t 114 7 = 121 ∧ (0 ≤ ((114 : Nat) : Int) + 7) ∧ mz_t 118 4 = 122 ∧ (0 ≤ ((118 : Nat) : Int) + 4) ∧ mz_t 127 (-115) = 12 ∧ (0 ≤ ((127 : Nat) : Int) + (-115)) ∧ mz_t 132 7 = 139 ∧ (0 ≤ ((132 : Nat) : Int) + 7) ∧ mz_t 136 13 = 149 ∧ (0 ≤ ((136 : Nat) : Int) + 13) ∧ mz_t 141 7 = 148 ∧ (0 ≤ ((141 : Nat) : Int) + 7) ∧ mz_t 145 4 = 149 ∧ (0 ≤ ((145 : Nat) : Int) + 4) := by decide +kernel
theorem j_Model_multiply : mz_t 4 47 = 51 ∧ (0 ≤ ((4 : Nat) : Int) + 47) ∧ mz_t 11 40 = 51 ∧ (0 ≤ ((11 : Nat) : Int) + 40) ∧ mz_t 18 33 = 51 ∧ (0 ≤ ((18 : Nat) : Int) + 33) ∧ mz_t 26 25 = 51 ∧ (0 ≤ ((26 : Nat) : Int) + 25) ∧ mz_t 35 16 = 51 ∧ (0 ≤ ((35 : Nat) : Int) + 16) ∧ mz_t 44 7 = 51 ∧ (0 ≤ ((44 : Nat) : Int) + 7) ∧ mz_t 48 4 = 52 ∧ (0 ≤ ((48 : Nat) : Int) + 4) ∧ mz_t 57 7 = 64 ∧ (0 ≤ ((57 : Nat) : Int) + 7) ∧ mz_t 61 4 = 65 ∧ (0 ≤ ((61 : Nat) : Int) + 4) ∧ mz_t 70 5 = 75 ∧ (0 ≤ ((70 : Nat) : Int) + 5) ∧ mz_t 86 142 = 228 ∧ (0 ≤ ((86 : Nat) : Int) + 142) ∧ mz_t 118 8 = 126 ∧ (0 ≤ ((118 : Nat) : Int) + 8) ∧ mz_t 123 11 = 134 ∧ (0 ≤ ((123 : Nat) : Int) + 11) ∧ mz_t 164 7 = 171 ∧ (0 ≤ ((164 : Nat) : Int) + 7) ∧ mz_t 168 4 = 172 ∧ (0 ≤ ((168 : Nat) : Int) + 4) ∧ mz_t 176 11 = 187 ∧ (0 ≤ ((176 : Nat) : Int) + 11) ∧ mz_t 198 11 = 209 ∧ (0 ≤ ((198 : Nat) : Int) + 11) ∧ mz_t 225 (-147) = 78 ∧ (0 ≤ ((225 : Nat) : Int) + (-147)) := by decide +kernel
theorem j_Model_isFactor : mz_t 1 27 = 28 ∧ (0 ≤ ((1 : Nat) : Int) + 27) ∧ mz_t 7 21 = 28 ∧ (0 ≤ ((7 : Nat) : Int) + 21) ∧ mz_t 21 7 = 28 ∧ (0 ≤ ((21 : Nat) : Int) + 7) ∧ mz_t 25 4 = 29 ∧ (0 ≤ ((25 : Nat) : Int) + 4) := by decide +kernel
theorem j_Model_meet : mz_t 13 23 = 36 ∧ (0 ≤ ((13 : Nat) : Int) + 23) ∧ mz_t 29 7 = 36 ∧ (0 ≤ ((29 : Nat) : Int) + 7) ∧ mz_t 33 4 = 37 ∧ (0 ≤ ((33 : Nat) : Int) + 4) := by decide +kernel
theorem j_Model_numberOf : mz_t 19 68 = 87 ∧ (0 ≤ ((19 : Nat) : Int) + 68) ∧ mz_t 35 7 = 42 ∧ (0 ≤ ((35 : Nat) : Int) + 7) ∧ mz_t 39 19 = 58 ∧ (0 ≤ ((39 : Nat) : Int) + 19) ∧ mz_t 46 11 = 57 ∧ (0 ≤ ((46 : Nat) : Int) + 11) ∧ mz_t 54 4 = 58 ∧ (0 ≤ ((54 : Nat) : Int) + 4) ∧ mz_t 61 8 = 69 ∧ (0 ≤ ((61 : Nat) : Int) + 8) ∧ mz_t 66 7 = 73 ∧ (0 ≤ ((66 : Nat) : Int) + 7) ∧ mz_t 70 10 = 80 ∧ (0 ≤ ((70 : Nat) : Int) + 10) ∧ mz_t 84 (-76) = 8 ∧ (0 ≤ ((84 : Nat) : Int) + (-76)) := by decide +kernel
theorem j_Model_tenTo : mz_t 6 15 = 21 ∧ (0 ≤ ((6 : Nat) : Int) + 15) ∧ mz_t 18 (-14) = 4 ∧ (0 ≤ ((18 : Nat) : Int) + (-14)) := by decide +kernel
theorem j_Model_punches : mz_t 23 85 = 108 ∧ (0 ≤ ((23 : Nat) : Int) + 85) ∧ mz_t 48 31 = 79 ∧ (0 ≤ ((48 : Nat) : Int) + 31) ∧ mz_t 60 15 = 75 ∧ (0 ≤ ((60 : Nat) : Int) + 15) ∧ mz_t 72 7 = 79 ∧ (0 ≤ ((72 : Nat) : Int) + 7) ∧ mz_t 76 4 = 80 ∧ (0 ≤ ((76 : Nat) : Int) + 4) ∧ mz_t 84 18 = 102 ∧ (0 ≤ ((84 : Nat) : Int) + 18) ∧ mz_t 105 (-88) = 17 ∧ (0 ≤ ((105 : Nat) : Int) + (-88)) := by decide +kernel
theorem j_Model_tabulate : mz_t 5 14 = 19 ∧ (0 ≤ ((5 : Nat) : Int) + 14) ∧ mz_t 12 7 = 19 ∧ (0 ≤ ((12 : Nat) : Int) + 7) ∧ mz_t 16 4 = 20 ∧ (0 ≤ ((16 : Nat) : Int) + 4) ∧ mz_t 27 5 = 32 ∧ (0 ≤ ((27 : Nat) : Int) + 5) ∧ mz_t 36 16 = 52 ∧ (0 ≤ ((36 : Nat) : Int) + 16) ∧ mz_t 49 (-15) = 34 ∧ (0 ≤ ((49 : Nat) : Int) + (-15)) ∧ mz_t 65 113 = 178 ∧ (0 ≤ ((65 : Nat) : Int) + 113) ∧ mz_t 77 51 = 128 ∧ (0 ≤ ((77 : Nat) : Int) + 51) ∧ mz_t 82 46 = 128 ∧ (0 ≤ ((82 : Nat) : Int) + 46) ∧ mz_t 108 10 = 118 ∧ (0 ≤ ((108 : Nat) : Int) + 10) ∧ mz_t 115 5 = 120 ∧ (0 ≤ ((115 : Nat) : Int) + 5) ∧ mz_t 125 (-51) = 74 ∧ (0 ≤ ((125 : Nat) : Int) + (-51)) ∧ mz_t 146 12 = 158 ∧ (0 ≤ ((146 : Nat) : Int) + 12) ∧ mz_t 175 (-113) = 62 ∧ (0 ≤ ((175 : Nat) : Int) + (-113)) ∧ mz_t 179 11 = 190 ∧ (0 ≤ ((179 : Nat) : Int) + 11) ∧ mz_t 187 4 = 191 ∧ (0 ≤ ((187 : Nat) : Int) + 4) ∧ mz_t 195 11 = 206 ∧ (0 ≤ ((195 : Nat) : Int) + 11) ∧ mz_t 212 20 = 232 ∧ (0 ≤ ((212 : Nat) : Int) + 20) ∧ mz_t 216 16 = 232 ∧ (0 ≤ ((216 : Nat) : Int) + 16) ∧ mz_t 229 (-20) = 209 ∧ (0 ≤ ((229 : Nat) : Int) + (-20)) := by decide +kernel
theorem j_Model_breaks : mz_t 22 116 = 138 ∧ (0 ≤ ((22 : Nat) : Int) + 116) ∧ mz_t 40 26 = 66 ∧ (0 ≤ ((40 : Nat) : Int) + 26) ∧ mz_t 47 19 = 66 ∧ (0 ≤ ((47 : Nat) : Int) + 19) ∧ mz_t 59 7 = 66 ∧ (0 ≤ ((59 : Nat) : Int) + 7) ∧ mz_t 63 4 = 67 ∧ (0 ≤ ((63 : Nat) : Int) + 4) ∧ mz_t 71 54 = 125 ∧ (0 ≤ ((71 : Nat) : Int) + 54) ∧ mz_t 76 53 = 129 ∧ (0 ≤ ((76 : Nat) : Int) + 53) ∧ mz_t 83 13 = 96 ∧ (0 ≤ ((83 : Nat) : Int) + 13) ∧ mz_t 93 4 = 97 ∧ (0 ≤ ((93 : Nat) : Int) + 4) ∧ mz_t 105 13 = 118 ∧ (0 ≤ ((105 : Nat) : Int) + 13) ∧ mz_t 115 4 = 119 ∧ (0 ≤ ((115 : Nat) : Int) + 4) ∧ mz_t 122 7 = 129 ∧ (0 ≤ ((122 : Nat) : Int) + 7) ∧ mz_t 126 4 = 130 ∧ (0 ≤ ((126 : Nat) : Int) + 4) ∧ mz_t 135 (-126) = 9 ∧ (0 ≤ ((135 : Nat) : Int) + (-126)) := by decide +kernel
theorem j_Model_faultOfCard : mz_t 14 7 = 21 ∧ (0 ≤ ((14 : Nat) : Int) + 7) ∧ mz_t 18 4 = 22 ∧ (0 ≤ ((18 : Nat) : Int) + 4) ∧ mz_t 26 7 = 33 ∧ (0 ≤ ((26 : Nat) : Int) + 7) ∧ mz_t 30 4 = 34 ∧ (0 ≤ ((30 : Nat) : Int) + 4) ∧ mz_t 42 51 = 93 ∧ (0 ≤ ((42 : Nat) : Int) + 51) ∧ mz_t 47 13 = 60 ∧ (0 ≤ ((47 : Nat) : Int) + 13) ∧ mz_t 57 7 = 64 ∧ (0 ≤ ((57 : Nat) : Int) + 7) ∧ mz_t 61 4 = 65 ∧ (0 ≤ ((61 : Nat) : Int) + 4) ∧ mz_t 76 7 = 83 ∧ (0 ≤ ((76 : Nat) : Int) + 7) ∧ mz_t 80 4 = 84 ∧ (0 ≤ ((80 : Nat) : Int) + 4) ∧ mz_t 90 (-51) = 39 ∧ (0 ≤ ((90 : Nat) : Int) + (-51)) ∧ mz_t 100 42 = 142 ∧ (0 ≤ ((100 : Nat) : Int) + 42) ∧ mz_t 105 24 = 129 ∧ (0 ≤ ((105 : Nat) : Int) + 24) ∧ mz_t 110 23 = 133 ∧ (0 ≤ ((110 : Nat) : Int) + 23) ∧ mz_t 126 7 = 133 ∧ (0 ≤ ((126 : Nat) : Int) + 7) ∧ mz_t 130 4 = 134 ∧ (0 ≤ ((130 : Nat) : Int) + 4) ∧ mz_t 139 (-43) = 96 ∧ (0 ≤ ((139 : Nat) : Int) + (-43)) ∧ mz_t 151 33 = 184 ∧ (0 ≤ ((151 : Nat) : Int) + 33) ∧ mz_t 156 15 = 171 ∧ (0 ≤ ((156 : Nat) : Int) + 15) ∧ mz_t 168 7 = 175 ∧ (0 ≤ ((168 : Nat) : Int) + 7) ∧ mz_t 172 4 = 176 ∧ (0 ≤ ((172 : Nat) : Int) + 4) ∧ mz_t 181 (-33) = 148 ∧ (0 ≤ ((181 : Nat) : Int) + (-33)) ∧ mz_t 186 7 = 193 ∧ (0 ≤ ((186 : Nat) : Int) + 7) ∧ mz_t 190 29 = 219 ∧ (0 ≤ ((190 : Nat) : Int) + 29) ∧ mz_t 195 7 = 202 ∧ (0 ≤ ((195 : Nat) : Int) + 7) ∧ mz_t 199 20 = 219 ∧ (0 ≤ ((199 : Nat) : Int) + 20) ∧ mz_t 211 7 = 218 ∧ (0 ≤ ((211 : Nat) : Int) + 7) ∧ mz_t 215 4 = 219 ∧ (0 ≤ ((215 : Nat) : Int) + 4) := by decide +kernel
theorem j_Model_isListed : mz_t 19 30 = 49 ∧ (0 ≤ ((19 : Nat) : Int) + 30) ∧ mz_t 23 14 = 37 ∧ (0 ≤ ((23 : Nat) : Int) + 14) ∧ mz_t 34 7 = 41 ∧ (0 ≤ ((34 : Nat) : Int) + 7) ∧ mz_t 38 4 = 42 ∧ (0 ≤ ((38 : Nat) : Int) + 4) ∧ mz_t 46 (-39) = 7 ∧ (0 ≤ ((46 : Nat) : Int) + (-39)) := by decide +kernel
theorem j_Model_counts : mz_t 9 146 = 155 ∧ (0 ≤ ((9 : Nat) : Int) + 146) ∧ mz_t 30 7 = 37 ∧ (0 ≤ ((30 : Nat) : Int) + 7) ∧ mz_t 34 10 = 44 ∧ (0 ≤ ((34 : Nat) : Int) + 10) ∧ mz_t 55 94 = 149 ∧ (0 ≤ ((55 : Nat) : Int) + 94) ∧ mz_t 79 14 = 93 ∧ (0 ≤ ((79 : Nat) : Int) + 14) ∧ mz_t 86 7 = 93 ∧ (0 ≤ ((86 : Nat) : Int) + 7) ∧ mz_t 90 4 = 94 ∧ (0 ≤ ((90 : Nat) : Int) + 4) ∧ mz_t 98 7 = 105 ∧ (0 ≤ ((98 : Nat) : Int) + 7) ∧ mz_t 102 8 = 110 ∧ (0 ≤ ((102 : Nat) : Int) + 8) ∧ mz_t 122 11 = 133 ∧ (0 ≤ ((122 : Nat) : Int) + 11) ∧ mz_t 130 4 = 134 ∧ (0 ≤ ((130 : Nat) : Int) + 4) ∧ mz_t 146 (-95) = 51 ∧ (0 ≤ ((146 : Nat) : Int) + (-95)) ∧ mz_t 152 (-146) = 6 ∧ (0 ≤ ((152 : Nat) : Int) + (-146)) := by decide +kernel
theorem j_Model_clashes : mz_t 9 32 = 41 ∧ (0 ≤ ((9 : Nat) : Int) + 32) ∧ mz_t 13 16 = 29 ∧ (0 ≤ ((13 : Nat) : Int) + 16) ∧ mz_t 26 7 = 33 ∧ (0 ≤ ((26 : Nat) : Int) + 7) ∧ mz_t 30 4 = 34 ∧ (0 ≤ ((30 : Nat) : Int) + 4) ∧ mz_t 38 (-33) = 5 ∧ (0 ≤ ((38 : Nat) : Int) + (-33)) := by decide +kernel
theorem j_Model_totals : mz_t 22 145 = 167 ∧ (0 ≤ ((22 : Nat) : Int) + 145) ∧ mz_t 48 39 = 87 ∧ (0 ≤ ((48 : Nat) : Int) + 39) ∧ mz_t 53 34 = 87 ∧ (0 ≤ ((53 : Nat) : Int) + 34) ∧ mz_t 65 7 = 72 ∧ (0 ≤ ((65 : Nat) : Int) + 7) ∧ mz_t 69 8 = 77 ∧ (0 ≤ ((69 : Nat) : Int) + 8) ∧ mz_t 80 7 = 87 ∧ (0 ≤ ((80 : Nat) : Int) + 7) ∧ mz_t 84 4 = 88 ∧ (0 ≤ ((84 : Nat) : Int) + 4) ∧ mz_t 92 34 = 126 ∧ (0 ≤ ((92 : Nat) : Int) + 34) ∧ mz_t 102 7 = 109 ∧ (0 ≤ ((102 : Nat) : Int) + 7) ∧ mz_t 106 8 = 114 ∧ (0 ≤ ((106 : Nat) : Int) + 8) ∧ mz_t 123 4 = 127 ∧ (0 ≤ ((123 : Nat) : Int) + 4) ∧ mz_t 131 10 = 141 ∧ (0 ≤ ((131 : Nat) : Int) + 10) ∧ mz_t 138 8 = 146 ∧ (0 ≤ ((138 : Nat) : Int) + 8) ∧ mz_t 143 16 = 159 ∧ (0 ≤ ((143 : Nat) : Int) + 16) ∧ mz_t 149 8 = 157 ∧ (0 ≤ ((149 : Nat) : Int) + 8) ∧ mz_t 154 5 = 159 ∧ (0 ≤ ((154 : Nat) : Int) + 5) ∧ mz_t 164 (-155) = 9 ∧ (0 ≤ ((164 : Nat) : Int) + (-155)) := by decide +kernel
theorem j_Model_wheel : mz_t 8 14 = 22 ∧ (0 ≤ ((8 : Nat) : Int) + 14) ∧ mz_t 19 (-14) = 5 ∧ (0 ≤ ((19 : Nat) : Int) + (-14)) ∧ mz_t 23 12 = 35 ∧ (0 ≤ ((23 : Nat) : Int) + 12) ∧ mz_t 27 8 = 35 ∧ (0 ≤ ((27 : Nat) : Int) + 8) ∧ mz_t 32 10 = 42 ∧ (0 ≤ ((32 : Nat) : Int) + 10) := by decide +kernel
theorem j_Model_hasLevel : mz_t 8 34 = 42 ∧ (0 ≤ ((8 : Nat) : Int) + 34) ∧ mz_t 12 18 = 30 ∧ (0 ≤ ((12 : Nat) : Int) + 18) ∧ mz_t 27 7 = 34 ∧ (0 ≤ ((27 : Nat) : Int) + 7) ∧ mz_t 31 4 = 35 ∧ (0 ≤ ((31 : Nat) : Int) + 4) ∧ mz_t 39 (-34) = 5 ∧ (0 ≤ ((39 : Nat) : Int) + (-34)) := by decide +kernel
theorem j_Model_tabulateCard : mz_t 6 16 = 22 ∧ (0 ≤ ((6 : Nat) : Int) + 16) ∧ mz_t 19 (-16) = 3 ∧ (0 ≤ ((19 : Nat) : Int) + (-16)) ∧ mz_t 27 46 = 73 ∧ (0 ≤ ((27 : Nat) : Int) + 46) ∧ mz_t 37 26 = 63 ∧ (0 ≤ ((37 : Nat) : Int) + 26) ∧ mz_t 60 (-27) = 33 ∧ (0 ≤ ((60 : Nat) : Int) + (-27)) ∧ mz_t 79 23 = 102 ∧ (0 ≤ ((79 : Nat) : Int) + 23) ∧ mz_t 99 (-23) = 76 ∧ (0 ≤ ((99 : Nat) : Int) + (-23)) := by decide +kernel
theorem j_Model_total : mz_t 6 4 = 10 ∧ (0 ≤ ((6 : Nat) : Int) + 4) ∧ mz_t 15 21 = 36 ∧ (0 ≤ ((15 : Nat) : Int) + 21) ∧ mz_t 33 (-21) = 12 ∧ (0 ≤ ((33 : Nat) : Int) + (-21)) ∧ mz_t 50 39 = 89 ∧ (0 ≤ ((50 : Nat) : Int) + 39) ∧ mz_t 69 7 = 76 ∧ (0 ≤ ((69 : Nat) : Int) + 7) ∧ mz_t 73 9 = 82 ∧ (0 ≤ ((73 : Nat) : Int) + 9) ∧ mz_t 86 (-38) = 48 ∧ (0 ≤ ((86 : Nat) : Int) + (-38)) := by decide +kernel
theorem j_Model_print : mz_t 14 8 = 22 ∧ (0 ≤ ((14 : Nat) : Int) + 8) ∧ mz_t 19 4 = 23 ∧ (0 ≤ ((19 : Nat) : Int) + 4) := by decide +kernel
theorem j_Model_faultOfEnd : mz_t 10 47 = 57 ∧ (0 ≤ ((10 : Nat) : Int) + 47) ∧ mz_t 14 13 = 27 ∧ (0 ≤ ((14 : Nat) : Int) + 13) ∧ mz_t 24 7 = 31 ∧ (0 ≤ ((24 : Nat) : Int) + 7) ∧ mz_t 28 4 = 32 ∧ (0 ≤ ((28 : Nat) : Int) + 4) ∧ mz_t 41 7 = 48 ∧ (0 ≤ ((41 : Nat) : Int) + 7) ∧ mz_t 45 4 = 49 ∧ (0 ≤ ((45 : Nat) : Int) + 4) ∧ mz_t 54 (-47) = 7 ∧ (0 ≤ ((54 : Nat) : Int) + (-47)) ∧ mz_t 58 7 = 65 ∧ (0 ≤ ((58 : Nat) : Int) + 7) ∧ mz_t 62 19 = 81 ∧ (0 ≤ ((62 : Nat) : Int) + 19) ∧ mz_t 73 7 = 80 ∧ (0 ≤ ((73 : Nat) : Int) + 7) ∧ mz_t 77 4 = 81 ∧ (0 ≤ ((77 : Nat) : Int) + 4) := by decide +kernel
theorem j_Model_cut : mz_t 9 29 = 38 ∧ (0 ≤ ((9 : Nat) : Int) + 29) ∧ mz_t 16 22 = 38 ∧ (0 ≤ ((16 : Nat) : Int) + 22) ∧ mz_t 21 17 = 38 ∧ (0 ≤ ((21 : Nat) : Int) + 17) ∧ mz_t 25 13 = 38 ∧ (0 ≤ ((25 : Nat) : Int) + 13) ∧ mz_t 35 5 = 40 ∧ (0 ≤ ((35 : Nat) : Int) + 5) ∧ mz_t 46 21 = 67 ∧ (0 ≤ ((46 : Nat) : Int) + 21) ∧ mz_t 64 (-21) = 43 ∧ (0 ≤ ((64 : Nat) : Int) + (-21)) ∧ mz_t 88 37 = 125 ∧ (0 ≤ ((88 : Nat) : Int) + 37) ∧ mz_t 122 (-42) = 80 ∧ (0 ≤ ((122 : Nat) : Int) + (-42)) := by decide +kernel
theorem j_Model_sign : mz_t 4 18 = 22 ∧ (0 ≤ ((4 : Nat) : Int) + 18) ∧ mz_t 8 14 = 22 ∧ (0 ≤ ((8 : Nat) : Int) + 14) ∧ mz_t 15 7 = 22 ∧ (0 ≤ ((15 : Nat) : Int) + 7) ∧ mz_t 19 4 = 23 ∧ (0 ≤ ((19 : Nat) : Int) + 4) ∧ mz_t 28 26 = 54 ∧ (0 ≤ ((28 : Nat) : Int) + 26) ∧ mz_t 38 7 = 45 ∧ (0 ≤ ((38 : Nat) : Int) + 7) ∧ mz_t 42 4 = 46 ∧ (0 ≤ ((42 : Nat) : Int) + 4) ∧ mz_t 47 7 = 54 ∧ (0 ≤ ((47 : Nat) : Int) + 7) ∧ mz_t 51 4 = 55 ∧ (0 ≤ ((51 : Nat) : Int) + 4) ∧ mz_t 62 7 = 69 ∧ (0 ≤ ((62 : Nat) : Int) + 7) ∧ mz_t 66 14 = 80 ∧ (0 ≤ ((66 : Nat) : Int) + 14) := by decide +kernel
theorem j_Model_printed : mz_t 2 25 = 27 ∧ (0 ≤ ((2 : Nat) : Int) + 25) ∧ mz_t 10 17 = 27 ∧ (0 ≤ ((10 : Nat) : Int) + 17) ∧ mz_t 14 13 = 27 ∧ (0 ≤ ((14 : Nat) : Int) + 13) ∧ mz_t 20 7 = 27 ∧ (0 ≤ ((20 : Nat) : Int) + 7) ∧ mz_t 24 4 = 28 ∧ (0 ≤ ((24 : Nat) : Int) + 4) ∧ mz_t 35 7 = 42 ∧ (0 ≤ ((35 : Nat) : Int) + 7) ∧ mz_t 39 14 = 53 ∧ (0 ≤ ((39 : Nat) : Int) + 14) := by decide +kernel
theorem j_Model_counter : mz_t 2 12 = 14 ∧ (0 ≤ ((2 : Nat) : Int) + 12) ∧ mz_t 7 7 = 14 ∧ (0 ≤ ((7 : Nat) : Int) + 7) ∧ mz_t 11 4 = 15 ∧ (0 ≤ ((11 : Nat) : Int) + 4) ∧ mz_t 22 7 = 29 ∧ (0 ≤ ((22 : Nat) : Int) + 7) ∧ mz_t 26 9 = 35 ∧ (0 ≤ ((26 : Nat) : Int) + 9) := by decide +kernel
theorem j_Model_fault : mz_t 6 10 = 16 ∧ (0 ≤ ((6 : Nat) : Int) + 10) ∧ mz_t 13 16 = 29 ∧ (0 ≤ ((13 : Nat) : Int) + 16) ∧ mz_t 18 10 = 28 ∧ (0 ≤ ((18 : Nat) : Int) + 10) ∧ mz_t 25 4 = 29 ∧ (0 ≤ ((25 : Nat) : Int) + 4) := by decide +kernel
theorem j_Model_count : mz_t 6 16 = 22 ∧ (0 ≤ ((6 : Nat) : Int) + 16) ∧ mz_t 12 10 = 22 ∧ (0 ≤ ((12 : Nat) : Int) + 10) ∧ mz_t 25 19 = 44 ∧ (0 ≤ ((25 : Nat) : Int) + 19) ∧ mz_t 31 13 = 44 ∧ (0 ≤ ((31 : Nat) : Int) + 13) ∧ mz_t 47 10 = 57 ∧ (0 ≤ ((47 : Nat) : Int) + 10) ∧ mz_t 54 43 = 97 ∧ (0 ≤ ((54 : Nat) : Int) + 43) ∧ mz_t 60 10 = 70 ∧ (0 ≤ ((60 : Nat) : Int) + 10) ∧ mz_t 67 30 = 97 ∧ (0 ≤ ((67 : Nat) : Int) + 30) ∧ mz_t 73 10 = 83 ∧ (0 ≤ ((73 : Nat) : Int) + 10) ∧ mz_t 80 17 = 97 ∧ (0 ≤ ((80 : Nat) : Int) + 17) ∧ mz_t 86 10 = 96 ∧ (0 ≤ ((86 : Nat) : Int) + 10) ∧ mz_t 93 4 = 97 ∧ (0 ≤ ((93 : Nat) : Int) + 4) := by decide +kernel
end
section
theorem c_Office_isDeck (G : mz_G) (X : mz_E) (n : Nat) (f : mz_H) (x : Int32) : mz_Ct G X y_Office_isDeck b_Office_isDeck 1 (some .boolean) (r_Office_isDeck 0 0) [.int x] n f (fun v n' f' => v = some (.int (mk_b (0 ≤ x.toInt ∧ x.toInt < 8))) ∧ n' = n ∧ f' = f) := by
  refine mk_Ct 0 false [some (.int x)] (by decide) rfl (by decide) (Nat.le_of_ble_eq_true rfl) rfl ?_
  refine mz_go [] 12 ?_
  simp only [mz_run, ev_0, ev_1, ev_2, ev_3, ev_4, ev_5, ev_6, ev_7, ev_8, ev_9, ev_10, ev_11, ev_12, ev_13, ev_14, ev_15, ev_16, ev_17, ev_18, ev_19, ev_20, ev_21, ev_22, ev_23, ev_24, ev_25, ev_26, ev_27, ev_28, ev_29, ev_30, ev_31, ev_32, ev_33, ev_34, ev_35, ev_36, ev_37, ev_38, ev_39, ev_40, ev_41, ev_42, ev_43, ev_44, ev_45, ev_46, ev_47, ev_48, ev_49, ev_50, ev_51, ev_52, ev_53, ev_54, ev_55, ev_56, ev_57, ev_58, ev_59, ev_60, ev_61, ev_62, ev_63, ev_64, ev_65, ev_66, ev_67, ev_68, ev_69, ev_70, ev_71, ev_72, ev_73, ev_74, ev_75, ev_76, ev_77, ev_78, ev_79, ev_80, ev_81, ev_82, ev_83, mk_lit, mk_fin, mk_cat, mk_fit, mk_nar, mk_fld, mk_cls, mk_ty, mk_isr, List.mem_cons, List.not_mem_nil, or_false, or_true, false_or, true_or, Nat.reduceEqDiff, Nat.reduceAdd, Nat.reduceSub, Nat.reduceLT, Nat.reduceLeDiff, reduceIte, if_true, if_false, List.getElem?_cons_zero, List.getElem?_cons_succ, List.set_cons_zero, List.set_cons_succ, List.length_cons, List.length_nil, mz_s1, mz_s2, mz_cl, true_and, and_true, false_and, and_false, List.append_nil, mk_b0, mk_b1, mk_b2, mk_bn, Value.int.injEq, Option.toList_some, Option.toList_none, List.cons_append, List.nil_append, Classical.not_not, Option.some.injEq, reduceCtorEq, ne_eq, not_true_eq_false, not_false_eq_true, forall_const, d_Office_isDeck, j_Office_isDeck, nF_0, mk_lt, mk_le, mk_ti]
  omega
theorem c_Office_isBoard (G : mz_G) (X : mz_E) (n : Nat) (f : mz_H) (x : Int32) : mz_Ct G X y_Office_isBoard b_Office_isBoard 1 (some .boolean) (r_Office_isBoard 0 0) [.int x] n f (fun v n' f' => v = some (.int (mk_b (0 ≤ x.toInt ∧ x.toInt < 4))) ∧ n' = n ∧ f' = f) := by
  refine mk_Ct 0 false [some (.int x)] (by decide) rfl (by decide) (Nat.le_of_ble_eq_true rfl) rfl ?_
  refine mz_go [] 12 ?_
  simp only [mz_run, ev_0, ev_1, ev_2, ev_3, ev_4, ev_5, ev_6, ev_7, ev_8, ev_9, ev_10, ev_11, ev_12, ev_13, ev_14, ev_15, ev_16, ev_17, ev_18, ev_19, ev_20, ev_21, ev_22, ev_23, ev_24, ev_25, ev_26, ev_27, ev_28, ev_29, ev_30, ev_31, ev_32, ev_33, ev_34, ev_35, ev_36, ev_37, ev_38, ev_39, ev_40, ev_41, ev_42, ev_43, ev_44, ev_45, ev_46, ev_47, ev_48, ev_49, ev_50, ev_51, ev_52, ev_53, ev_54, ev_55, ev_56, ev_57, ev_58, ev_59, ev_60, ev_61, ev_62, ev_63, ev_64, ev_65, ev_66, ev_67, ev_68, ev_69, ev_70, ev_71, ev_72, ev_73, ev_74, ev_75, ev_76, ev_77, ev_78, ev_79, ev_80, ev_81, ev_82, ev_83, mk_lit, mk_fin, mk_cat, mk_fit, mk_nar, mk_fld, mk_cls, mk_ty, mk_isr, List.mem_cons, List.not_mem_nil, or_false, or_true, false_or, true_or, Nat.reduceEqDiff, Nat.reduceAdd, Nat.reduceSub, Nat.reduceLT, Nat.reduceLeDiff, reduceIte, if_true, if_false, List.getElem?_cons_zero, List.getElem?_cons_succ, List.set_cons_zero, List.set_cons_succ, List.length_cons, List.length_nil, mz_s1, mz_s2, mz_cl, true_and, and_true, false_and, and_false, List.append_nil, mk_b0, mk_b1, mk_b2, mk_bn, Value.int.injEq, Option.toList_some, Option.toList_none, List.cons_append, List.nil_append, Classical.not_not, Option.some.injEq, reduceCtorEq, ne_eq, not_true_eq_false, not_false_eq_true, forall_const, d_Office_isBoard, j_Office_isBoard, nF_0, mk_lt, mk_le, mk_ti]
  omega
theorem c_Office_isCounter (G : mz_G) (X : mz_E) (n : Nat) (f : mz_H) (x : Int32) : mz_Ct G X y_Office_isCounter b_Office_isCounter 1 (some .boolean) (r_Office_isCounter 0 0) [.int x] n f (fun v n' f' => v = some (.int (mk_b (0 ≤ x.toInt ∧ x.toInt < 4))) ∧ n' = n ∧ f' = f) := by
  refine mk_Ct 0 false [some (.int x)] (by decide) rfl (by decide) (Nat.le_of_ble_eq_true rfl) rfl ?_
  refine mz_go [] 12 ?_
  simp only [mz_run, ev_0, ev_1, ev_2, ev_3, ev_4, ev_5, ev_6, ev_7, ev_8, ev_9, ev_10, ev_11, ev_12, ev_13, ev_14, ev_15, ev_16, ev_17, ev_18, ev_19, ev_20, ev_21, ev_22, ev_23, ev_24, ev_25, ev_26, ev_27, ev_28, ev_29, ev_30, ev_31, ev_32, ev_33, ev_34, ev_35, ev_36, ev_37, ev_38, ev_39, ev_40, ev_41, ev_42, ev_43, ev_44, ev_45, ev_46, ev_47, ev_48, ev_49, ev_50, ev_51, ev_52, ev_53, ev_54, ev_55, ev_56, ev_57, ev_58, ev_59, ev_60, ev_61, ev_62, ev_63, ev_64, ev_65, ev_66, ev_67, ev_68, ev_69, ev_70, ev_71, ev_72, ev_73, ev_74, ev_75, ev_76, ev_77, ev_78, ev_79, ev_80, ev_81, ev_82, ev_83, mk_lit, mk_fin, mk_cat, mk_fit, mk_nar, mk_fld, mk_cls, mk_ty, mk_isr, List.mem_cons, List.not_mem_nil, or_false, or_true, false_or, true_or, Nat.reduceEqDiff, Nat.reduceAdd, Nat.reduceSub, Nat.reduceLT, Nat.reduceLeDiff, reduceIte, if_true, if_false, List.getElem?_cons_zero, List.getElem?_cons_succ, List.set_cons_zero, List.set_cons_succ, List.length_cons, List.length_nil, mz_s1, mz_s2, mz_cl, true_and, and_true, false_and, and_false, List.append_nil, mk_b0, mk_b1, mk_b2, mk_bn, Value.int.injEq, Option.toList_some, Option.toList_none, List.cons_append, List.nil_append, Classical.not_not, Option.some.injEq, reduceCtorEq, ne_eq, not_true_eq_false, not_false_eq_true, forall_const, d_Office_isCounter, j_Office_isCounter, nF_0, mk_lt, mk_le, mk_ti]
  omega
theorem c_Office_isColumn (G : mz_G) (X : mz_E) (n : Nat) (f : mz_H) (x : Int32) : mz_Ct G X y_Office_isColumn b_Office_isColumn 1 (some .boolean) (r_Office_isColumn 0 0) [.int x] n f (fun v n' f' => v = some (.int (mk_b (0 ≤ x.toInt ∧ x.toInt < 16))) ∧ n' = n ∧ f' = f) := by
  refine mk_Ct 0 false [some (.int x)] (by decide) rfl (by decide) (Nat.le_of_ble_eq_true rfl) rfl ?_
  refine mz_go [] 12 ?_
  simp only [mz_run, ev_0, ev_1, ev_2, ev_3, ev_4, ev_5, ev_6, ev_7, ev_8, ev_9, ev_10, ev_11, ev_12, ev_13, ev_14, ev_15, ev_16, ev_17, ev_18, ev_19, ev_20, ev_21, ev_22, ev_23, ev_24, ev_25, ev_26, ev_27, ev_28, ev_29, ev_30, ev_31, ev_32, ev_33, ev_34, ev_35, ev_36, ev_37, ev_38, ev_39, ev_40, ev_41, ev_42, ev_43, ev_44, ev_45, ev_46, ev_47, ev_48, ev_49, ev_50, ev_51, ev_52, ev_53, ev_54, ev_55, ev_56, ev_57, ev_58, ev_59, ev_60, ev_61, ev_62, ev_63, ev_64, ev_65, ev_66, ev_67, ev_68, ev_69, ev_70, ev_71, ev_72, ev_73, ev_74, ev_75, ev_76, ev_77, ev_78, ev_79, ev_80, ev_81, ev_82, ev_83, mk_lit, mk_fin, mk_cat, mk_fit, mk_nar, mk_fld, mk_cls, mk_ty, mk_isr, List.mem_cons, List.not_mem_nil, or_false, or_true, false_or, true_or, Nat.reduceEqDiff, Nat.reduceAdd, Nat.reduceSub, Nat.reduceLT, Nat.reduceLeDiff, reduceIte, if_true, if_false, List.getElem?_cons_zero, List.getElem?_cons_succ, List.set_cons_zero, List.set_cons_succ, List.length_cons, List.length_nil, mz_s1, mz_s2, mz_cl, true_and, and_true, false_and, and_false, List.append_nil, mk_b0, mk_b1, mk_b2, mk_bn, Value.int.injEq, Option.toList_some, Option.toList_none, List.cons_append, List.nil_append, Classical.not_not, Option.some.injEq, reduceCtorEq, ne_eq, not_true_eq_false, not_false_eq_true, forall_const, d_Office_isColumn, j_Office_isColumn, nF_0, mk_lt, mk_le, mk_ti]
  omega
theorem c_Office_isField (G : mz_G) (X : mz_E) (n : Nat) (f : mz_H) (x y : Int32) : mz_Ct G X y_Office_isField b_Office_isField 2 (some .boolean) (r_Office_isField 0 0) [.int x, .int y] n f (fun v n' f' => v = some (.int (mk_b (0 ≤ x.toInt ∧ x.toInt ≤ y.toInt ∧ y.toInt < 16))) ∧ n' = n ∧ f' = f) := by
  refine mk_Ct 0 false [some (.int x), some (.int y)] (by decide) rfl (by decide) (Nat.le_of_ble_eq_true rfl) rfl ?_
  refine mz_go [] 14 ?_
  simp only [mz_run, ev_0, ev_1, ev_2, ev_3, ev_4, ev_5, ev_6, ev_7, ev_8, ev_9, ev_10, ev_11, ev_12, ev_13, ev_14, ev_15, ev_16, ev_17, ev_18, ev_19, ev_20, ev_21, ev_22, ev_23, ev_24, ev_25, ev_26, ev_27, ev_28, ev_29, ev_30, ev_31, ev_32, ev_33, ev_34, ev_35, ev_36, ev_37, ev_38, ev_39, ev_40, ev_41, ev_42, ev_43, ev_44, ev_45, ev_46, ev_47, ev_48, ev_49, ev_50, ev_51, ev_52, ev_53, ev_54, ev_55, ev_56, ev_57, ev_58, ev_59, ev_60, ev_61, ev_62, ev_63, ev_64, ev_65, ev_66, ev_67, ev_68, ev_69, ev_70, ev_71, ev_72, ev_73, ev_74, ev_75, ev_76, ev_77, ev_78, ev_79, ev_80, ev_81, ev_82, ev_83, mk_lit, mk_fin, mk_cat, mk_fit, mk_nar, mk_fld, mk_cls, mk_ty, mk_isr, List.mem_cons, List.not_mem_nil, or_false, or_true, false_or, true_or, Nat.reduceEqDiff, Nat.reduceAdd, Nat.reduceSub, Nat.reduceLT, Nat.reduceLeDiff, reduceIte, if_true, if_false, List.getElem?_cons_zero, List.getElem?_cons_succ, List.set_cons_zero, List.set_cons_succ, List.length_cons, List.length_nil, mz_s1, mz_s2, mz_cl, true_and, and_true, false_and, and_false, List.append_nil, mk_b0, mk_b1, mk_b2, mk_bn, Value.int.injEq, Option.toList_some, Option.toList_none, List.cons_append, List.nil_append, Classical.not_not, Option.some.injEq, reduceCtorEq, ne_eq, not_true_eq_false, not_false_eq_true, forall_const, d_Office_isField, j_Office_isField, nF_0, mk_lt, mk_le, mk_ti]
  omega
theorem c_Office_isFromJack (G : mz_G) (X : mz_E) (n : Nat) (f : mz_H) (x : Int32) : mz_Ct G X y_Office_isFromJack b_Office_isFromJack 1 (some .boolean) (r_Office_isFromJack 0 0) [.int x] n f (fun v n' f' => v = some (.int (mk_b (0 ≤ x.toInt ∧ x.toInt < 26 ∨ 32 ≤ x.toInt ∧ x.toInt < 56))) ∧ n' = n ∧ f' = f) := by
  refine mk_Ct 0 false [some (.int x)] (by decide) rfl (by decide) (Nat.le_of_ble_eq_true rfl) rfl ?_
  refine mz_go [] 17 ?_
  simp only [mz_run, ev_0, ev_1, ev_2, ev_3, ev_4, ev_5, ev_6, ev_7, ev_8, ev_9, ev_10, ev_11, ev_12, ev_13, ev_14, ev_15, ev_16, ev_17, ev_18, ev_19, ev_20, ev_21, ev_22, ev_23, ev_24, ev_25, ev_26, ev_27, ev_28, ev_29, ev_30, ev_31, ev_32, ev_33, ev_34, ev_35, ev_36, ev_37, ev_38, ev_39, ev_40, ev_41, ev_42, ev_43, ev_44, ev_45, ev_46, ev_47, ev_48, ev_49, ev_50, ev_51, ev_52, ev_53, ev_54, ev_55, ev_56, ev_57, ev_58, ev_59, ev_60, ev_61, ev_62, ev_63, ev_64, ev_65, ev_66, ev_67, ev_68, ev_69, ev_70, ev_71, ev_72, ev_73, ev_74, ev_75, ev_76, ev_77, ev_78, ev_79, ev_80, ev_81, ev_82, ev_83, mk_lit, mk_fin, mk_cat, mk_fit, mk_nar, mk_fld, mk_cls, mk_ty, mk_isr, List.mem_cons, List.not_mem_nil, or_false, or_true, false_or, true_or, Nat.reduceEqDiff, Nat.reduceAdd, Nat.reduceSub, Nat.reduceLT, Nat.reduceLeDiff, reduceIte, if_true, if_false, List.getElem?_cons_zero, List.getElem?_cons_succ, List.set_cons_zero, List.set_cons_succ, List.length_cons, List.length_nil, mz_s1, mz_s2, mz_cl, true_and, and_true, false_and, and_false, List.append_nil, mk_b0, mk_b1, mk_b2, mk_bn, Value.int.injEq, Option.toList_some, Option.toList_none, List.cons_append, List.nil_append, Classical.not_not, Option.some.injEq, reduceCtorEq, ne_eq, not_true_eq_false, not_false_eq_true, forall_const, d_Office_isFromJack, j_Office_isFromJack, nF_0, mk_lt, mk_le, mk_ti]
  omega
theorem c_Office_isSign (G : mz_G) (X : mz_E) (n : Nat) (f : mz_H) (x : Int32) : mz_Ct G X y_Office_isSign b_Office_isSign 1 (some .boolean) (r_Office_isSign 0 0) [.int x] n f (fun v n' f' => v = some (.int (mk_b (x.toInt = 32 ∨ 48 ≤ x.toInt ∧ x.toInt ≤ 57 ∨ 65 ≤ x.toInt ∧ x.toInt ≤ 90))) ∧ n' = n ∧ f' = f) := by
  refine mk_Ct 0 false [some (.int x)] (by decide) rfl (by decide) (Nat.le_of_ble_eq_true rfl) rfl ?_
  refine mz_go [] 20 ?_
  simp only [mz_run, ev_0, ev_1, ev_2, ev_3, ev_4, ev_5, ev_6, ev_7, ev_8, ev_9, ev_10, ev_11, ev_12, ev_13, ev_14, ev_15, ev_16, ev_17, ev_18, ev_19, ev_20, ev_21, ev_22, ev_23, ev_24, ev_25, ev_26, ev_27, ev_28, ev_29, ev_30, ev_31, ev_32, ev_33, ev_34, ev_35, ev_36, ev_37, ev_38, ev_39, ev_40, ev_41, ev_42, ev_43, ev_44, ev_45, ev_46, ev_47, ev_48, ev_49, ev_50, ev_51, ev_52, ev_53, ev_54, ev_55, ev_56, ev_57, ev_58, ev_59, ev_60, ev_61, ev_62, ev_63, ev_64, ev_65, ev_66, ev_67, ev_68, ev_69, ev_70, ev_71, ev_72, ev_73, ev_74, ev_75, ev_76, ev_77, ev_78, ev_79, ev_80, ev_81, ev_82, ev_83, mk_lit, mk_fin, mk_cat, mk_fit, mk_nar, mk_fld, mk_cls, mk_ty, mk_isr, List.mem_cons, List.not_mem_nil, or_false, or_true, false_or, true_or, Nat.reduceEqDiff, Nat.reduceAdd, Nat.reduceSub, Nat.reduceLT, Nat.reduceLeDiff, reduceIte, if_true, if_false, List.getElem?_cons_zero, List.getElem?_cons_succ, List.set_cons_zero, List.set_cons_succ, List.length_cons, List.length_nil, mz_s1, mz_s2, mz_cl, true_and, and_true, false_and, and_false, List.append_nil, mk_b0, mk_b1, mk_b2, mk_bn, Value.int.injEq, Option.toList_some, Option.toList_none, List.cons_append, List.nil_append, Classical.not_not, Option.some.injEq, reduceCtorEq, ne_eq, not_true_eq_false, not_false_eq_true, forall_const, d_Office_isSign, j_Office_isSign, nF_0, mk_lt, mk_le, mk_eq x (nI 32), mk_ti]
  omega
theorem c_Office_areTwoDecks (G : mz_G) (X : mz_E) (n : Nat) (f : mz_H) (x y : Int32) : mz_Ct G X y_Office_areTwoDecks b_Office_areTwoDecks 2 (some .boolean) (r_Office_areTwoDecks 0 0) [.int x, .int y] n f (fun v n' f' => v = some (.int (mk_b ((0 ≤ x.toInt ∧ x.toInt < 8) ∧ (0 ≤ y.toInt ∧ y.toInt < 8) ∧ x.toInt ≠ y.toInt))) ∧ n' = n ∧ f' = f) := by
  refine mk_Ct 0 false [some (.int x), some (.int y)] (by decide) rfl (by decide) (Nat.le_of_ble_eq_true rfl) rfl ?_
  refine mz_go [1] 4 ?_
  simp only [mz_run, ev_0, ev_1, ev_2, ev_3, ev_4, ev_5, ev_6, ev_7, ev_8, ev_9, ev_10, ev_11, ev_12, ev_13, ev_14, ev_15, ev_16, ev_17, ev_18, ev_19, ev_20, ev_21, ev_22, ev_23, ev_24, ev_25, ev_26, ev_27, ev_28, ev_29, ev_30, ev_31, ev_32, ev_33, ev_34, ev_35, ev_36, ev_37, ev_38, ev_39, ev_40, ev_41, ev_42, ev_43, ev_44, ev_45, ev_46, ev_47, ev_48, ev_49, ev_50, ev_51, ev_52, ev_53, ev_54, ev_55, ev_56, ev_57, ev_58, ev_59, ev_60, ev_61, ev_62, ev_63, ev_64, ev_65, ev_66, ev_67, ev_68, ev_69, ev_70, ev_71, ev_72, ev_73, ev_74, ev_75, ev_76, ev_77, ev_78, ev_79, ev_80, ev_81, ev_82, ev_83, mk_lit, mk_fin, mk_cat, mk_fit, mk_nar, mk_fld, mk_cls, mk_ty, mk_isr, List.mem_cons, List.not_mem_nil, or_false, or_true, false_or, true_or, Nat.reduceEqDiff, Nat.reduceAdd, Nat.reduceSub, Nat.reduceLT, Nat.reduceLeDiff, reduceIte, if_true, if_false, List.getElem?_cons_zero, List.getElem?_cons_succ, List.set_cons_zero, List.set_cons_succ, List.length_cons, List.length_nil, mz_s1, mz_s2, mz_cl, true_and, and_true, false_and, and_false, List.append_nil, mk_b0, mk_b1, mk_b2, mk_bn, Value.int.injEq, Option.toList_some, Option.toList_none, List.cons_append, List.nil_append, Classical.not_not, Option.some.injEq, reduceCtorEq, ne_eq, not_true_eq_false, not_false_eq_true, forall_const, d_Office_areTwoDecks, j_Office_areTwoDecks, nF_0]
  refine mz_callS (by simp only [d_Office_areTwoDecks]) g_0_62 rfl (fun _ _ h => h) (c_Office_isDeck G X n f x) (by decide) (Nat.le_of_ble_eq_true rfl) rfl ?_; rintro v_ n_ f_ ⟨rfl, rfl, rfl⟩
  refine mz_go [8] 12 ?_
  simp only [mz_run, ev_0, ev_1, ev_2, ev_3, ev_4, ev_5, ev_6, ev_7, ev_8, ev_9, ev_10, ev_11, ev_12, ev_13, ev_14, ev_15, ev_16, ev_17, ev_18, ev_19, ev_20, ev_21, ev_22, ev_23, ev_24, ev_25, ev_26, ev_27, ev_28, ev_29, ev_30, ev_31, ev_32, ev_33, ev_34, ev_35, ev_36, ev_37, ev_38, ev_39, ev_40, ev_41, ev_42, ev_43, ev_44, ev_45, ev_46, ev_47, ev_48, ev_49, ev_50, ev_51, ev_52, ev_53, ev_54, ev_55, ev_56, ev_57, ev_58, ev_59, ev_60, ev_61, ev_62, ev_63, ev_64, ev_65, ev_66, ev_67, ev_68, ev_69, ev_70, ev_71, ev_72, ev_73, ev_74, ev_75, ev_76, ev_77, ev_78, ev_79, ev_80, ev_81, ev_82, ev_83, mk_lit, mk_fin, mk_cat, mk_fit, mk_nar, mk_fld, mk_cls, mk_ty, mk_isr, List.mem_cons, List.not_mem_nil, or_false, or_true, false_or, true_or, Nat.reduceEqDiff, Nat.reduceAdd, Nat.reduceSub, Nat.reduceLT, Nat.reduceLeDiff, reduceIte, if_true, if_false, List.getElem?_cons_zero, List.getElem?_cons_succ, List.set_cons_zero, List.set_cons_succ, List.length_cons, List.length_nil, mz_s1, mz_s2, mz_cl, true_and, and_true, false_and, and_false, List.append_nil, mk_b0, mk_b1, mk_b2, mk_bn, Value.int.injEq, Option.toList_some, Option.toList_none, List.cons_append, List.nil_append, Classical.not_not, Option.some.injEq, reduceCtorEq, ne_eq, not_true_eq_false, not_false_eq_true, forall_const, d_Office_areTwoDecks, j_Office_areTwoDecks, nF_0]
  refine ⟨fun h => by omega, fun h => ?_⟩
  refine mz_callS (by simp only [d_Office_areTwoDecks]) g_0_62 rfl (fun _ _ h => h) (c_Office_isDeck G X _ _ y) (by decide) (Nat.le_of_ble_eq_true rfl) rfl ?_; rintro v_ n_ f_ ⟨rfl, rfl, rfl⟩
  refine mz_go [] 12 ?_
  simp only [mz_run, ev_0, ev_1, ev_2, ev_3, ev_4, ev_5, ev_6, ev_7, ev_8, ev_9, ev_10, ev_11, ev_12, ev_13, ev_14, ev_15, ev_16, ev_17, ev_18, ev_19, ev_20, ev_21, ev_22, ev_23, ev_24, ev_25, ev_26, ev_27, ev_28, ev_29, ev_30, ev_31, ev_32, ev_33, ev_34, ev_35, ev_36, ev_37, ev_38, ev_39, ev_40, ev_41, ev_42, ev_43, ev_44, ev_45, ev_46, ev_47, ev_48, ev_49, ev_50, ev_51, ev_52, ev_53, ev_54, ev_55, ev_56, ev_57, ev_58, ev_59, ev_60, ev_61, ev_62, ev_63, ev_64, ev_65, ev_66, ev_67, ev_68, ev_69, ev_70, ev_71, ev_72, ev_73, ev_74, ev_75, ev_76, ev_77, ev_78, ev_79, ev_80, ev_81, ev_82, ev_83, mk_lit, mk_fin, mk_cat, mk_fit, mk_nar, mk_fld, mk_cls, mk_ty, mk_isr, List.mem_cons, List.not_mem_nil, or_false, or_true, false_or, true_or, Nat.reduceEqDiff, Nat.reduceAdd, Nat.reduceSub, Nat.reduceLT, Nat.reduceLeDiff, reduceIte, if_true, if_false, List.getElem?_cons_zero, List.getElem?_cons_succ, List.set_cons_zero, List.set_cons_succ, List.length_cons, List.length_nil, mz_s1, mz_s2, mz_cl, true_and, and_true, false_and, and_false, List.append_nil, mk_b0, mk_b1, mk_b2, mk_bn, Value.int.injEq, Option.toList_some, Option.toList_none, List.cons_append, List.nil_append, Classical.not_not, Option.some.injEq, reduceCtorEq, ne_eq, not_true_eq_false, not_false_eq_true, forall_const, d_Office_areTwoDecks, j_Office_areTwoDecks, nF_0, mk_eq x y]
  omega
end
