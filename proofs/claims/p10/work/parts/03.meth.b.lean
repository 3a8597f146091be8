def y_Model_init : MethodName := ⟨"CardOfficeModel", "<init>", "()V"⟩
abbrev b_Model_init : ByteArray := prog_14_method_1_code
def r_Model_init (c s : Nat) : Room := { frames := 1, cells := c, slots := s, locals := 14 }
theorem d_Model_init_0 : decode b_Model_init 0 = .ok (.aload_n 0, 1) := by decide +kernel
theorem d_Model_init_1 : decode b_Model_init 1 = .ok (.invokespecial 1, 3) := by decide +kernel
theorem d_Model_init_4 : decode b_Model_init 4 = .ok (.aload_n 0, 1) := by decide +kernel
theorem d_Model_init_5 : decode b_Model_init 5 = .ok (.sipush 3200, 3) := by decide +kernel
theorem d_Model_init_8 : decode b_Model_init 8 = .ok (.newarray .byte, 2) := by decide +kernel
theorem d_Model_init_10 : decode b_Model_init 10 = .ok (.putfield 7, 3) := by decide +kernel
theorem d_Model_init_13 : decode b_Model_init 13 = .ok (.aload_n 0, 1) := by decide +kernel
theorem d_Model_init_14 : decode b_Model_init 14 = .ok (.sipush 1600, 3) := by decide +kernel
theorem d_Model_init_17 : decode b_Model_init 17 = .ok (.newarray .short, 2) := by decide +kernel
theorem d_Model_init_19 : decode b_Model_init 19 = .ok (.putfield 13, 3) := by decide +kernel
theorem d_Model_init_22 : decode b_Model_init 22 = .ok (.aload_n 0, 1) := by decide +kernel
theorem d_Model_init_23 : decode b_Model_init 23 = .ok (.bipush 8, 2) := by decide +kernel
theorem d_Model_init_25 : decode b_Model_init 25 = .ok (.newarray .int, 2) := by decide +kernel
theorem d_Model_init_27 : decode b_Model_init 27 = .ok (.putfield 17, 3) := by decide +kernel
theorem d_Model_init_30 : decode b_Model_init 30 = .ok (.aload_n 0, 1) := by decide +kernel
theorem d_Model_init_31 : decode b_Model_init 31 = .ok (.sipush 200, 3) := by decide +kernel
theorem d_Model_init_34 : decode b_Model_init 34 = .ok (.newarray .short, 2) := by decide +kernel
theorem d_Model_init_36 : decode b_Model_init 36 = .ok (.putfield 21, 3) := by decide +kernel
theorem d_Model_init_39 : decode b_Model_init 39 = .ok (.aload_n 0, 1) := by decide +kernel
theorem d_Model_init_40 : decode b_Model_init 40 = .ok (.sipush 200, 3) := by decide +kernel
theorem d_Model_init_43 : decode b_Model_init 43 = .ok (.newarray .short, 2) := by decide +kernel
theorem d_Model_init_45 : decode b_Model_init 45 = .ok (.putfield 24, 3) := by decide +kernel
theorem d_Model_init_48 : decode b_Model_init 48 = .ok (.aload_n 0, 1) := by decide +kernel
theorem d_Model_init_49 : decode b_Model_init 49 = .ok (.sipush 160, 3) := by decide +kernel
theorem d_Model_init_52 : decode b_Model_init 52 = .ok (.newarray .byte, 2) := by decide +kernel
theorem d_Model_init_54 : decode b_Model_init 54 = .ok (.putfield 27, 3) := by decide +kernel
theorem d_Model_init_57 : decode b_Model_init 57 = .ok (.aload_n 0, 1) := by decide +kernel
theorem d_Model_init_58 : decode b_Model_init 58 = .ok (.sipush 160, 3) := by decide +kernel
theorem d_Model_init_61 : decode b_Model_init 61 = .ok (.newarray .byte, 2) := by decide +kernel
theorem d_Model_init_63 : decode b_Model_init 63 = .ok (.putfield 30, 3) := by decide +kernel
theorem d_Model_init_66 : decode b_Model_init 66 = .ok (.aload_n 0, 1) := by decide +kernel
theorem d_Model_init_67 : decode b_Model_init 67 = .ok (.iconst 4, 1) := by decide +kernel
theorem d_Model_init_68 : decode b_Model_init 68 = .ok (.newarray .int, 2) := by decide +kernel
theorem d_Model_init_70 : decode b_Model_init 70 = .ok (.putfield 33, 3) := by decide +kernel
theorem d_Model_init_73 : decode b_Model_init 73 = .ok (.aload_n 0, 1) := by decide +kernel
theorem d_Model_init_74 : decode b_Model_init 74 = .ok (.bipush 16, 2) := by decide +kernel
theorem d_Model_init_76 : decode b_Model_init 76 = .ok (.newarray .int, 2) := by decide +kernel
theorem d_Model_init_78 : decode b_Model_init 78 = .ok (.putfield 36, 3) := by decide +kernel
theorem d_Model_init_81 : decode b_Model_init 81 = .ok (.aload_n 0, 1) := by decide +kernel
theorem d_Model_init_82 : decode b_Model_init 82 = .ok (.iconst 4, 1) := by decide +kernel
theorem d_Model_init_83 : decode b_Model_init 83 = .ok (.newarray .int, 2) := by decide +kernel
theorem d_Model_init_85 : decode b_Model_init 85 = .ok (.putfield 39, 3) := by decide +kernel
theorem d_Model_init_88 : decode b_Model_init 88 = .ok (.aload_n 0, 1) := by decide +kernel
theorem d_Model_init_89 : decode b_Model_init 89 = .ok (.iconst 4, 1) := by decide +kernel
theorem d_Model_init_90 : decode b_Model_init 90 = .ok (.newarray .int, 2) := by decide +kernel
theorem d_Model_init_92 : decode b_Model_init 92 = .ok (.putfield 42, 3) := by decide +kernel
theorem d_Model_init_95 : decode b_Model_init 95 = .ok (.aload_n 0, 1) := by decide +kernel
theorem d_Model_init_96 : decode b_Model_init 96 = .ok (.sipush 2400, 3) := by decide +kernel
theorem d_Model_init_99 : decode b_Model_init 99 = .ok (.newarray .byte, 2) := by decide +kernel
theorem d_Model_init_101 : decode b_Model_init 101 = .ok (.putfield 45, 3) := by decide +kernel
theorem d_Model_init_104 : decode b_Model_init 104 = .ok (.aload_n 0, 1) := by decide +kernel
theorem d_Model_init_105 : decode b_Model_init 105 = .ok (.iconst (-1), 1) := by decide +kernel
theorem d_Model_init_106 : decode b_Model_init 106 = .ok (.putfield 48, 3) := by decide +kernel
theorem d_Model_init_109 : decode b_Model_init 109 = .ok (.iconst 0, 1) := by decide +kernel
theorem d_Model_init_110 : decode b_Model_init 110 = .ok (.istore_n 1, 1) := by decide +kernel
theorem d_Model_init_111 : decode b_Model_init 111 = .ok (.iload_n 1, 1) := by decide +kernel
theorem d_Model_init_112 : decode b_Model_init 112 = .ok (.bipush 16, 2) := by decide +kernel
theorem d_Model_init_114 : decode b_Model_init 114 = .ok (.if_icmp .ge 16, 3) := by decide +kernel
theorem d_Model_init_117 : decode b_Model_init 117 = .ok (.aload_n 0, 1) := by decide +kernel
theorem d_Model_init_118 : decode b_Model_init 118 = .ok (.getfield 36, 3) := by decide +kernel
theorem d_Model_init_121 : decode b_Model_init 121 = .ok (.iload_n 1, 1) := by decide +kernel
theorem d_Model_init_122 : decode b_Model_init 122 = .ok (.iconst 3, 1) := by decide +kernel
theorem d_Model_init_123 : decode b_Model_init 123 = .ok (.iastore, 1) := by decide +kernel
theorem d_Model_init_124 : decode b_Model_init 124 = .ok (.iinc 1 1, 3) := by decide +kernel
theorem d_Model_init_127 : decode b_Model_init 127 = .ok (.goto (-16), 3) := by decide +kernel
theorem d_Model_init_130 : decode b_Model_init 130 = .ok (.return_, 1) := by decide +kernel
theorem d_Model_init : decode b_Model_init 0 = .ok (.aload_n 0, 1) ∧ decode b_Model_init 1 = .ok (.invokespecial 1, 3) ∧ decode b_Model_init 4 = .ok (.aload_n 0, 1) ∧ decode b_Model_init 5 = .ok (.sipush 3200, 3) ∧ decode b_Model_init 8 = .ok (.newarray .byte, 2) ∧ decode b_Model_init 10 = .ok (.putfield 7, 3) ∧ decode b_Model_init 13 = .ok (.aload_n 0, 1) ∧ decode b_Model_init 14 = .ok (.sipush 1600, 3) ∧ decode b_Model_init 17 = .ok (.newarray .short, 2) ∧ decode b_Model_init 19 = .ok (.putfield 13, 3) ∧ decode b_Model_init 22 = .ok (.aload_n 0, 1) ∧ decode b_Model_init 23 = .ok (.bipush 8, 2) ∧ decode b_Model_init 25 = .ok (.newarray .int, 2) ∧ decode b_Model_init 27 = .ok (.putfield 17, 3) ∧ decode b_Model_init 30 = .ok (.aload_n 0, 1) ∧ decode b_Model_init 31 = .ok (.sipush 200, 3) ∧ decode b_Model_init 34 = .ok (.newarray .short, 2) ∧ decode b_Model_init 36 = .ok (.putfield 21, 3) ∧ decode b_Model_init 39 = .ok (.aload_n 0, 1) ∧ decode b_Model_init 40 = .ok (.sipush 200, 3) ∧ decode b_Model_init 43 = .ok (.newarray .short, 2) ∧ decode b_Model_init 45 = .ok (.putfield 24, 3) ∧ decode b_Model_init 48 = .ok (.aload_n 0, 1) ∧ decode b_Model_init 49 = .ok (.sipush 160, 3) ∧ decode b_Model_init 52 = .ok (.newarray .byte, 2) ∧ decode b_Model_init 54 = .ok (.putfield 27, 3) ∧ decode b_Model_init 57 = .ok (.aload_n 0, 1) ∧ decode b_Model_init 58 = .ok (.sipush 160, 3) ∧ decode b_Model_init 61 = .ok (.newarray .byte, 2) ∧ decode b_Model_init 63 = .ok (.putfield 30, 3) ∧ decode b_Model_init 66 = .ok (.aload_n 0, 1) ∧ decode b_Model_init 67 = .ok (.iconst 4, 1) ∧ decode b_Model_init 68 = .ok (.newarray .int, 2) ∧ decode b_Model_init 70 = .ok (.putfield 33, 3) ∧ decode b_Model_init 73 = .ok (.aload_n 0, 1) ∧ decode b_Model_init 74 = .ok (.bipush 16, 2) ∧ decode b_Model_init 76 = .ok (.newarray .int, 2) ∧ decode b_Model_init 78 = .ok (.putfield 36, 3) ∧ decode b_Model_init 81 = .ok (.aload_n 0, 1) ∧ decode b_Model_init 82 = .ok (.iconst 4, 1) ∧ decode b_Model_init 83 = .ok (.newarray .int, 2) ∧ decode b_Model_init 85 = .ok (.putfield 39, 3) ∧ decode b_Model_init 88 = .ok (.aload_n 0, 1) ∧ decode b_Model_init 89 = .ok (.iconst 4, 1) ∧ decode b_Model_init 90 = .ok (.newarray .int, 2) ∧ decode b_Model_init 92 = .ok (.putfield 42, 3) ∧ decode b_Model_init 95 = .ok (.aload_n 0, 1) ∧ decode b_Model_init 96 = .ok (.sipush 2400, 3) ∧ decode b_Model_init 99 = .ok (.newarray .byte, 2) ∧ decode b_Model_init 101 = .ok (.putfield 45, 3) ∧ decode b_Model_init 104 = .ok (.aload_n 0, 1) ∧ decode b_Model_init 105 = .ok (.iconst (-1), 1) ∧ decode b_Model_init 106 = .ok (.putfield 48, 3) ∧ decode b_Model_init 109 = .ok (.iconst 0, 1) ∧ decode b_Model_init 110 = .ok (.istore_n 1, 1) ∧ decode b_Model_init 111 = .ok (.iload_n 1, 1) ∧ decode b_Model_init 112 = .ok (.bipush 16, 2) ∧ decode b_Model_init 114 = .ok (.if_icmp .ge 16, 3) ∧ decode b_Model_init 117 = .ok (.aload_n 0, 1) ∧ decode b_Model_init 118 = .ok (.getfield 36, 3) ∧ decode b_Model_init 121 = .ok (.iload_n 1, 1) ∧ decode b_Model_init 122 = .ok (.iconst 3, 1) ∧ decode b_Model_init 123 = .ok (.iastore, 1) ∧ decode b_Model_init 124 = .ok (.iinc 1 1, 3) ∧ decode b_Model_init 127 = .ok (.goto (-16), 3) ∧ decode b_Model_init 130 = .ok (.return_, 1) := ⟨d_Model_init_0, d_Model_init_1, d_Model_init_4, d_Model_init_5, d_Model_init_8, d_Model_init_10, d_Model_init_13, d_Model_init_14, d_Model_init_17, d_Model_init_19, d_Model_init_22, d_Model_init_23, d_Model_init_25, d_Model_init_27, d_Model_init_30, d_Model_init_31, d_Model_init_34, d_Model_init_36, d_Model_init_39, d_Model_init_40, d_Model_init_43, d_Model_init_45, d_Model_init_48, d_Model_init_49, d_Model_init_52, d_Model_init_54, d_Model_init_57, d_Model_init_58, d_Model_init_61, d_Model_init_63, d_Model_init_66, d_Model_init_67, d_Model_init_68, d_Model_init_70, d_Model_init_73, d_Model_init_74, d_Model_init_76, d_Model_init_78, d_Model_init_81, d_Model_init_82, d_Model_init_83, d_Model_init_85, d_Model_init_88, d_Model_init_89, d_Model_init_90, d_Model_init_92, d_Model_init_95, d_Model_init_96, d_Model_init_99, d_Model_init_101, d_Model_init_104, d_Model_init_105, d_Model_init_106, d_Model_init_109, d_Model_init_110, d_Model_init_111, d_Model_init_112, d_Model_init_114, d_Model_init_117, d_Model_init_118, d_Model_init_121, d_Model_init_122, d_Model_init_123, d_Model_init_124, d_Model_init_127, d_Model_init_130⟩
theorem i_Model_init : Cond.instanceMethod y_Model_init ∈ nm_Ts ∧ y_Model_init.name = "<init>" ∧ Cond.initialized y_Model_init.cls ∈ nm_Ts ∧ Cond.code y_Model_init b_Model_init 2 none ∈ nm_Ts ∧ mz_cl1 y_Model_init 0 := ⟨nm_t4 80 rfl rfl, rfl, nm_t1 12 rfl rfl, nm_t4 81 rfl rfl, by decide +kernel⟩
def y_Model_thrown : MethodName := ⟨"CardOfficeModel", "thrown", "()I"⟩
abbrev b_Model_thrown : ByteArray := prog_14_method_2_code
def r_Model_thrown (c s : Nat) : Room := { frames := 0, cells := c, slots := s, locals := 0 }
theorem d_Model_thrown_0 : decode b_Model_thrown 0 = .ok (.aload_n 0, 1) := by decide +kernel
theorem d_Model_thrown_1 : decode b_Model_thrown 1 = .ok (.getfield 52, 3) := by decide +kernel
theorem d_Model_thrown_4 : decode b_Model_thrown 4 = .ok (.ireturn, 1) := by decide +kernel
theorem d_Model_thrown : decode b_Model_thrown 0 = .ok (.aload_n 0, 1) ∧ decode b_Model_thrown 1 = .ok (.getfield 52, 3) ∧ decode b_Model_thrown 4 = .ok (.ireturn, 1) := ⟨d_Model_thrown_0, d_Model_thrown_1, d_Model_thrown_4⟩
theorem v_Model_thrown : Cond.instanceMethod y_Model_thrown ∈ nm_Ts ∧ Cond.selects y_Model_thrown.cls y_Model_thrown y_Model_thrown ∈ nm_Ts ∧ Cond.initialized y_Model_thrown.cls ∈ nm_Ts ∧ Cond.code y_Model_thrown b_Model_thrown 1 (some .int) ∈ nm_Ts ∧ mz_cl1 y_Model_thrown 0 := ⟨nm_t4 143 rfl rfl, nm_t4 144 rfl rfl, nm_t1 12 rfl rfl, nm_t4 145 rfl rfl, by decide +kernel⟩
def y_Model_card : MethodName := ⟨"CardOfficeModel", "card", "(IJJ)Z"⟩
abbrev b_Model_card : ByteArray := prog_14_method_15_code
def r_Model_card (c s : Nat) : Room := { frames := 1, cells := c, slots := s, locals := 22 }
theorem d_Model_card_0 : decode b_Model_card 0 = .ok (.aload_n 0, 1) := by decide +kernel
theorem d_Model_card_1 : decode b_Model_card 1 = .ok (.iconst 0, 1) := by decide +kernel
theorem d_Model_card_2 : decode b_Model_card 2 = .ok (.putfield 52, 3) := by decide +kernel
theorem d_Model_card_5 : decode b_Model_card 5 = .ok (.iload_n 1, 1) := by decide +kernel
theorem d_Model_card_6 : decode b_Model_card 6 = .ok (.invokestatic 65, 3) := by decide +kernel
theorem d_Model_card_9 : decode b_Model_card 9 = .ok (.ifCond .eq 17, 3) := by decide +kernel
theorem d_Model_card_12 : decode b_Model_card 12 = .ok (.aload_n 0, 1) := by decide +kernel
theorem d_Model_card_13 : decode b_Model_card 13 = .ok (.getfield 62, 3) := by decide +kernel
theorem d_Model_card_16 : decode b_Model_card 16 = .ok (.sipush 200, 3) := by decide +kernel
theorem d_Model_card_19 : decode b_Model_card 19 = .ok (.if_icmp .ge 7, 3) := by decide +kernel
theorem d_Model_card_22 : decode b_Model_card 22 = .ok (.iconst 1, 1) := by decide +kernel
theorem d_Model_card_23 : decode b_Model_card 23 = .ok (.goto 4, 3) := by decide +kernel
theorem d_Model_card_26 : decode b_Model_card 26 = .ok (.iconst 0, 1) := by decide +kernel
theorem d_Model_card_27 : decode b_Model_card 27 = .ok (.istore 6, 2) := by decide +kernel
theorem d_Model_card_29 : decode b_Model_card 29 = .ok (.iconst 0, 1) := by decide +kernel
theorem d_Model_card_30 : decode b_Model_card 30 = .ok (.istore 7, 2) := by decide +kernel
theorem d_Model_card_32 : decode b_Model_card 32 = .ok (.iload 7, 2) := by decide +kernel
theorem d_Model_card_34 : decode b_Model_card 34 = .ok (.bipush 16, 2) := by decide +kernel
theorem d_Model_card_36 : decode b_Model_card 36 = .ok (.if_icmp .ge 57, 3) := by decide +kernel
theorem d_Model_card_39 : decode b_Model_card 39 = .ok (.iload 6, 2) := by decide +kernel
theorem d_Model_card_41 : decode b_Model_card 41 = .ok (.ifCond .eq 43, 3) := by decide +kernel
theorem d_Model_card_44 : decode b_Model_card 44 = .ok (.iload 7, 2) := by decide +kernel
theorem d_Model_card_46 : decode b_Model_card 46 = .ok (.bipush 8, 2) := by decide +kernel
theorem d_Model_card_48 : decode b_Model_card 48 = .ok (.if_icmp .ge 7, 3) := by decide +kernel
theorem d_Model_card_51 : decode b_Model_card 51 = .ok (.lload_n 2, 1) := by decide +kernel
theorem d_Model_card_52 : decode b_Model_card 52 = .ok (.goto 5, 3) := by decide +kernel
theorem d_Model_card_55 : decode b_Model_card 55 = .ok (.lload 4, 2) := by decide +kernel
theorem d_Model_card_57 : decode b_Model_card 57 = .ok (.bipush 56, 2) := by decide +kernel
theorem d_Model_card_59 : decode b_Model_card 59 = .ok (.bipush 8, 2) := by decide +kernel
theorem d_Model_card_61 : decode b_Model_card 61 = .ok (.iload 7, 2) := by decide +kernel
theorem d_Model_card_63 : decode b_Model_card 63 = .ok (.bipush 8, 2) := by decide +kernel
theorem d_Model_card_65 : decode b_Model_card 65 = .ok (.irem, 1) := by decide +kernel
theorem d_Model_card_66 : decode b_Model_card 66 = .ok (.imul, 1) := by decide +kernel
theorem d_Model_card_67 : decode b_Model_card 67 = .ok (.isub, 1) := by decide +kernel
theorem d_Model_card_68 : decode b_Model_card 68 = .ok (.lshr, 1) := by decide +kernel
theorem d_Model_card_69 : decode b_Model_card 69 = .ok (.ldc2_w 69, 3) := by decide +kernel
theorem d_Model_card_72 : decode b_Model_card 72 = .ok (.land, 1) := by decide +kernel
theorem d_Model_card_73 : decode b_Model_card 73 = .ok (.l2i, 1) := by decide +kernel
theorem d_Model_card_74 : decode b_Model_card 74 = .ok (.invokestatic 71, 3) := by decide +kernel
theorem d_Model_card_77 : decode b_Model_card 77 = .ok (.ifCond .eq 7, 3) := by decide +kernel
theorem d_Model_card_80 : decode b_Model_card 80 = .ok (.iconst 1, 1) := by decide +kernel
theorem d_Model_card_81 : decode b_Model_card 81 = .ok (.goto 4, 3) := by decide +kernel
theorem d_Model_card_84 : decode b_Model_card 84 = .ok (.iconst 0, 1) := by decide +kernel
theorem d_Model_card_85 : decode b_Model_card 85 = .ok (.istore 6, 2) := by decide +kernel
theorem d_Model_card_87 : decode b_Model_card 87 = .ok (.iinc 7 1, 3) := by decide +kernel
theorem d_Model_card_90 : decode b_Model_card 90 = .ok (.goto (-58), 3) := by decide +kernel
theorem d_Model_card_93 : decode b_Model_card 93 = .ok (.iload 6, 2) := by decide +kernel
theorem d_Model_card_95 : decode b_Model_card 95 = .ok (.ifCond .ne 5, 3) := by decide +kernel
theorem d_Model_card_98 : decode b_Model_card 98 = .ok (.iconst 0, 1) := by decide +kernel
theorem d_Model_card_99 : decode b_Model_card 99 = .ok (.ireturn, 1) := by decide +kernel
theorem d_Model_card_100 : decode b_Model_card 100 = .ok (.aload_n 0, 1) := by decide +kernel
theorem d_Model_card_101 : decode b_Model_card 101 = .ok (.invokevirtual 74, 3) := by decide +kernel
theorem d_Model_card_104 : decode b_Model_card 104 = .ok (.istore 7, 2) := by decide +kernel
theorem d_Model_card_106 : decode b_Model_card 106 = .ok (.iconst 0, 1) := by decide +kernel
theorem d_Model_card_107 : decode b_Model_card 107 = .ok (.istore 8, 2) := by decide +kernel
theorem d_Model_card_109 : decode b_Model_card 109 = .ok (.iload 8, 2) := by decide +kernel
theorem d_Model_card_111 : decode b_Model_card 111 = .ok (.bipush 16, 2) := by decide +kernel
theorem d_Model_card_113 : decode b_Model_card 113 = .ok (.if_icmp .ge 53, 3) := by decide +kernel
theorem d_Model_card_116 : decode b_Model_card 116 = .ok (.aload_n 0, 1) := by decide +kernel
theorem d_Model_card_117 : decode b_Model_card 117 = .ok (.getfield 7, 3) := by decide +kernel
theorem d_Model_card_120 : decode b_Model_card 120 = .ok (.bipush 16, 2) := by decide +kernel
theorem d_Model_card_122 : decode b_Model_card 122 = .ok (.iload 7, 2) := by decide +kernel
theorem d_Model_card_124 : decode b_Model_card 124 = .ok (.imul, 1) := by decide +kernel
theorem d_Model_card_125 : decode b_Model_card 125 = .ok (.iload 8, 2) := by decide +kernel
theorem d_Model_card_127 : decode b_Model_card 127 = .ok (.iadd, 1) := by decide +kernel
theorem d_Model_card_128 : decode b_Model_card 128 = .ok (.iload 8, 2) := by decide +kernel
theorem d_Model_card_130 : decode b_Model_card 130 = .ok (.bipush 8, 2) := by decide +kernel
theorem d_Model_card_132 : decode b_Model_card 132 = .ok (.if_icmp .ge 7, 3) := by decide +kernel
theorem d_Model_card_135 : decode b_Model_card 135 = .ok (.lload_n 2, 1) := by decide +kernel
theorem d_Model_card_136 : decode b_Model_card 136 = .ok (.goto 5, 3) := by decide +kernel
theorem d_Model_card_139 : decode b_Model_card 139 = .ok (.lload 4, 2) := by decide +kernel
theorem d_Model_card_141 : decode b_Model_card 141 = .ok (.bipush 56, 2) := by decide +kernel
theorem d_Model_card_143 : decode b_Model_card 143 = .ok (.bipush 8, 2) := by decide +kernel
theorem d_Model_card_145 : decode b_Model_card 145 = .ok (.iload 8, 2) := by decide +kernel
theorem d_Model_card_147 : decode b_Model_card 147 = .ok (.bipush 8, 2) := by decide +kernel
theorem d_Model_card_149 : decode b_Model_card 149 = .ok (.irem, 1) := by decide +kernel
theorem d_Model_card_150 : decode b_Model_card 150 = .ok (.imul, 1) := by decide +kernel
theorem d_Model_card_151 : decode b_Model_card 151 = .ok (.isub, 1) := by decide +kernel
theorem d_Model_card_152 : decode b_Model_card 152 = .ok (.lshr, 1) := by decide +kernel
theorem d_Model_card_153 : decode b_Model_card 153 = .ok (.ldc2_w 69, 3) := by decide +kernel
theorem d_Model_card_156 : decode b_Model_card 156 = .ok (.land, 1) := by decide +kernel
theorem d_Model_card_157 : decode b_Model_card 157 = .ok (.l2i, 1) := by decide +kernel
theorem d_Model_card_158 : decode b_Model_card 158 = .ok (.i2b, 1) := by decide +kernel
theorem d_Model_card_159 : decode b_Model_card 159 = .ok (.bastore, 1) := by decide +kernel
theorem d_Model_card_160 : decode b_Model_card 160 = .ok (.iinc 8 1, 3) := by decide +kernel
theorem d_Model_card_163 : decode b_Model_card 163 = .ok (.goto (-54), 3) := by decide +kernel
theorem d_Model_card_166 : decode b_Model_card 166 = .ok (.aload_n 0, 1) := by decide +kernel
theorem d_Model_card_167 : decode b_Model_card 167 = .ok (.iload_n 1, 1) := by decide +kernel
theorem d_Model_card_168 : decode b_Model_card 168 = .ok (.iload 7, 2) := by decide +kernel
theorem d_Model_card_170 : decode b_Model_card 170 = .ok (.invokevirtual 78, 3) := by decide +kernel
theorem d_Model_card_173 : decode b_Model_card 173 = .ok (.iconst 1, 1) := by decide +kernel
theorem d_Model_card_174 : decode b_Model_card 174 = .ok (.ireturn, 1) := by decide +kernel
theorem d_Model_card : decode b_Model_card 0 = .ok (.aload_n 0, 1) ∧ decode b_Model_card 1 = .ok (.iconst 0, 1) ∧ decode b_Model_card 2 = .ok (.putfield 52, 3) ∧ decode b_Model_card 5 = .ok (.iload_n 1, 1) ∧ decode b_Model_card 6 = .ok (.invokestatic 65, 3) ∧ decode b_Model_card 9 = .ok (.ifCond .eq 17, 3) ∧ decode b_Model_card 12 = .ok (.aload_n 0, 1) ∧ decode b_Model_card 13 = .ok (.getfield 62, 3) ∧ decode b_Model_card 16 = .ok (.sipush 200, 3) ∧ decode b_Model_card 19 = .ok (.if_icmp .ge 7, 3) ∧ decode b_Model_card 22 = .ok (.iconst 1, 1) ∧ decode b_Model_card 23 = .ok (.goto 4, 3) ∧ decode b_Model_card 26 = .ok (.iconst 0, 1) ∧ decode b_Model_card 27 = .ok (.istore 6, 2) ∧ decode b_Model_card 29 = .ok (.iconst 0, 1) ∧ decode b_Model_card 30 = .ok (.istore 7, 2) ∧ decode b_Model_card 32 = .ok (.iload 7, 2) ∧ decode b_Model_card 34 = .ok (.bipush 16, 2) ∧ decode b_Model_card 36 = .ok (.if_icmp .ge 57, 3) ∧ decode b_Model_card 39 = .ok (.iload 6, 2) ∧ decode b_Model_card 41 = .ok (.ifCond .eq 43, 3) ∧ decode b_Model_card 44 = .ok (.iload 7, 2) ∧ decode b_Model_card 46 = .ok (.bipush 8, 2) ∧ decode b_Model_card 48 = .ok (.if_icmp .ge 7, 3) ∧ decode b_Model_card 51 = .ok (.lload_n 2, 1) ∧ decode b_Model_card 52 = .ok (.goto 5, 3) ∧ decode b_Model_card 55 = .ok (.lload 4, 2) ∧ decode b_Model_card 57 = .ok (.bipush 56, 2) ∧ decode b_Model_card 59 = .ok (.bipush 8, 2) ∧ decode b_Model_card 61 = .ok (.iload 7, 2) ∧ decode b_Model_card 63 = .ok (.bipush 8, 2) ∧ decode b_Model_card 65 = .ok (.irem, 1) ∧ decode b_Model_card 66 = .ok (.imul, 1) ∧ decode b_Model_card 67 = .ok (.isub, 1) ∧ decode b_Model_card 68 = .ok (.lshr, 1) ∧ decode b_Model_card 69 = .ok (.ldc2_w 69, 3) ∧ decode b_Model_card 72 = .ok (.land, 1) ∧ decode b_Model_card 73 = .ok (.l2i, 1) ∧ decode b_Model_card 74 = .ok (.invokestatic 71, 3) ∧ decode b_Model_card 77 = .ok (.ifCond .eq 7, 3) ∧ decode b_Model_card 80 = .ok (.iconst 1, 1) ∧ decode b_Model_card 81 = .ok (.goto 4, 3) ∧ decode b_Model_card 84 = .ok (.iconst 0, 1) ∧ decode b_Model_card 85 = .ok (.istore 6, 2) ∧ decode b_Model_card 87 = .ok (.iinc 7 1, 3) ∧ decode b_Model_card 90 = .ok (.goto (-58), 3) ∧ decode b_Model_card 93 = .ok (.iload 6, 2) ∧ decode b_Model_card 95 = .ok (.ifCond .ne 5, 3) ∧ decode b_Model_card 98 = .ok (.iconst 0, 1) ∧ decode b_Model_card 99 = .ok (.ireturn, 1) ∧ decode b_Model_card 100 = .ok (.aload_n 0, 1) ∧ decode b_Model_card 101 = .ok (.invokevirtual 74, 3) ∧ decode b_Model_card 104 = .ok (.istore 7, 2) ∧ decode b_Model_card 106 = .ok (.iconst 0, 1) ∧ decode b_Model_card 107 = .ok (.istore 8, 2) ∧ decode b_Model_card 109 = .ok (.iload 8, 2) ∧ decode b_Model_card 111 = .ok (.bipush 16, 2) ∧ decode b_Model_card 113 = .ok (.if_icmp .ge 53, 3) ∧ decode b_Model_card 116 = .ok (.aload_n 0, 1) ∧ decode b_Model_card 117 = .ok (.getfield 7, 3) ∧ decode b_Model_card 120 = .ok (.bipush 16, 2) ∧ decode b_Model_card 122 = .ok (.iload 7, 2) ∧ decode b_Model_card 124 = .ok (.imul, 1) ∧ decode b_Model_card 125 = .ok (.iload 8, 2) ∧ decode b_Model_card 127 = .ok (.iadd, 1) ∧ decode b_Model_card 128 = .ok (.iload 8, 2) ∧ decode b_Model_card 130 = .ok (.bipush 8, 2) ∧ decode b_Model_card 132 = .ok (.if_icmp .ge 7, 3) ∧ decode b_Model_card 135 = .ok (.lload_n 2, 1) ∧ decode b_Model_card 136 = .ok (.goto 5, 3) ∧ decode b_Model_card 139 = .ok (.lload 4, 2) ∧ decode b_Model_card 141 = .ok (.bipush 56, 2) ∧ decode b_Model_card 143 = .ok (.bipush 8, 2) ∧ decode b_Model_card 145 = .ok (.iload 8, 2) ∧ decode b_Model_card 147 = .ok (.bipush 8, 2) ∧ decode b_Model_card 149 = .ok (.irem, 1) ∧ decode b_Model_card 150 = .ok (.imul, 1) ∧ decode b_Model_card 151 = .ok (.isub, 1) ∧ decode b_Model_card 152 = .ok (.lshr, 1) ∧ decode b_Model_card 153 = .ok (.ldc2_w 69, 3) ∧ decode b_Model_card 156 = .ok (.land, 1) ∧ decode b_Model_card 157 = .ok (.l2i, 1) ∧ decode b_Model_card 158 = .ok (.i2b, 1) ∧ decode b_Model_card 159 = .ok (.bastore, 1) ∧ decode b_Model_card 160 = .ok (.iinc 8 1, 3) ∧ decode b_Model_card 163 = .ok (.goto (-54), 3) ∧ decode b_Model_card 166 = .ok (.aload_n 0, 1) ∧ decode b_Model_card 167 = .ok (.iload_n 1, 1) ∧ decode b_Model_card 168 = .ok (.iload 7, 2) ∧ decode b_Model_card 170 = .ok (.invokevirtual 78, 3) ∧ decode b_Model_card 173 = .ok (.iconst 1, 1) ∧ decode b_Model_card 174 = .ok (.ireturn, 1) := ⟨d_Model_card_0, d_Model_card_1, d_Model_card_2, d_Model_card_5, d_Model_card_6, d_Model_card_9, d_Model_card_12, d_Model_card_13, d_Model_card_16, d_Model_card_19, d_Model_card_22, d_Model_card_23, d_Model_card_26, d_Model_card_27, d_Model_card_29, d_Model_card_30, d_Model_card_32, d_Model_card_34, d_Model_card_36, d_Model_card_39, d_Model_card_41, d_Model_card_44, d_Model_card_46, d_Model_card_48, d_Model_card_51, d_Model_card_52, d_Model_card_55, d_Model_card_57, d_Model_card_59, d_Model_card_61, d_Model_card_63, d_Model_card_65, d_Model_card_66, d_Model_card_67, d_Model_card_68, d_Model_card_69, d_Model_card_72, d_Model_card_73, d_Model_card_74, d_Model_card_77, d_Model_card_80, d_Model_card_81, d_Model_card_84, d_Model_card_85, d_Model_card_87, d_Model_card_90, d_Model_card_93, d_Model_card_95, d_Model_card_98, d_Model_card_99, d_Model_card_100, d_Model_card_101, d_Model_card_104, d_Model_card_106, d_Model_card_107, d_Model_card_109, d_Model_card_111, d_Model_card_113, d_Model_card_116, d_Model_card_117, d_Model_card_120, d_Model_card_122, d_Model_card_124, d_Model_card_125, d_Model_card_127, d_Model_card_128, d_Model_card_130, d_Model_card_132, d_Model_card_135, d_Model_card_136, d_Model_card_139, d_Model_card_141, d_Model_card_143, d_Model_card_145, d_Model_card_147, d_Model_card_149, d_Model_card_150, d_Model_card_151, d_Model_card_152, d_Model_card_153, d_Model_card_156, d_Model_card_157, d_Model_card_158, d_Model_card_159, d_Model_card_160, d_Model_card_163, d_Model_card_166, d_Model_card_167, d_Model_card_168, d_Model_card_170, d_Model_card_173, d_Model_card_174⟩
theorem v_Model_card : Cond.instanceMethod y_Model_card ∈ nm_Ts ∧ Cond.selects y_Model_card.cls y_Model_card y_Model_card ∈ nm_Ts ∧ Cond.initialized y_Model_card.cls ∈ nm_Ts ∧ Cond.code y_Model_card b_Model_card 9 (some .boolean) ∈ nm_Ts ∧ mz_cl1 y_Model_card 3 := ⟨nm_t4 147 rfl rfl, nm_t4 148 rfl rfl, nm_t1 12 rfl rfl, nm_t4 149 rfl rfl, by decide +kernel⟩
def y_Model_isDeck : MethodName := ⟨"CardOfficeModel", "isDeck", "(I)Z"⟩
abbrev b_Model_isDeck : ByteArray := prog_14_method_9_code
def r_Model_isDeck (c s : Nat) : Room := { frames := 0, cells := c, slots := s, locals := 0 }
theorem d_Model_isDeck_0 : decode b_Model_isDeck 0 = .ok (.iload_n 0, 1) := by decide +kernel
theorem d_Model_isDeck_1 : decode b_Model_isDeck 1 = .ok (.ifCond .lt 13, 3) := by decide +kernel
theorem d_Model_isDeck_4 : decode b_Model_isDeck 4 = .ok (.iload_n 0, 1) := by decide +kernel
theorem d_Model_isDeck_5 : decode b_Model_isDeck 5 = .ok (.bipush 8, 2) := by decide +kernel
theorem d_Model_isDeck_7 : decode b_Model_isDeck 7 = .ok (.if_icmp .ge 7, 3) := by decide +kernel
theorem d_Model_isDeck_10 : decode b_Model_isDeck 10 = .ok (.iconst 1, 1) := by decide +kernel
theorem d_Model_isDeck_11 : decode b_Model_isDeck 11 = .ok (.goto 4, 3) := by decide +kernel
theorem d_Model_isDeck_14 : decode b_Model_isDeck 14 = .ok (.iconst 0, 1) := by decide +kernel
theorem d_Model_isDeck_15 : decode b_Model_isDeck 15 = .ok (.ireturn, 1) := by decide +kernel
theorem d_Model_isDeck : decode b_Model_isDeck 0 = .ok (.iload_n 0, 1) ∧ decode b_Model_isDeck 1 = .ok (.ifCond .lt 13, 3) ∧ decode b_Model_isDeck 4 = .ok (.iload_n 0, 1) ∧ decode b_Model_isDeck 5 = .ok (.bipush 8, 2) ∧ decode b_Model_isDeck 7 = .ok (.if_icmp .ge 7, 3) ∧ decode b_Model_isDeck 10 = .ok (.iconst 1, 1) ∧ decode b_Model_isDeck 11 = .ok (.goto 4, 3) ∧ decode b_Model_isDeck 14 = .ok (.iconst 0, 1) ∧ decode b_Model_isDeck 15 = .ok (.ireturn, 1) := ⟨d_Model_isDeck_0, d_Model_isDeck_1, d_Model_isDeck_4, d_Model_isDeck_5, d_Model_isDeck_7, d_Model_isDeck_10, d_Model_isDeck_11, d_Model_isDeck_14, d_Model_isDeck_15⟩
theorem s_Model_isDeck : Cond.static y_Model_isDeck ∈ nm_Ts ∧ Cond.initialized y_Model_isDeck.cls ∈ nm_Ts ∧ Cond.code y_Model_isDeck b_Model_isDeck 1 (some .boolean) ∈ nm_Ts ∧ mz_cl1 y_Model_isDeck 1 := ⟨nm_t4 151 rfl rfl, nm_t1 12 rfl rfl, nm_t4 152 rfl rfl, by decide +kernel⟩
def y_Model_isSign : MethodName := ⟨"CardOfficeModel", "isSign", "(I)Z"⟩
abbrev b_Model_isSign : ByteArray := prog_14_method_3_code
def r_Model_isSign (c s : Nat) : Room := { frames := 0, cells := c, slots := s, locals := 0 }
theorem d_Model_isSign_0 : decode b_Model_isSign 0 = .ok (.iload_n 0, 1) := by decide +kernel
theorem d_Model_isSign_1 : decode b_Model_isSign 1 = .ok (.bipush 32, 2) := by decide +kernel
theorem d_Model_isSign_3 : decode b_Model_isSign 3 = .ok (.if_icmp .eq 27, 3) := by decide +kernel
theorem d_Model_isSign_6 : decode b_Model_isSign 6 = .ok (.iload_n 0, 1) := by decide +kernel
theorem d_Model_isSign_7 : decode b_Model_isSign 7 = .ok (.bipush 48, 2) := by decide +kernel
theorem d_Model_isSign_9 : decode b_Model_isSign 9 = .ok (.if_icmp .lt 9, 3) := by decide +kernel
theorem d_Model_isSign_12 : decode b_Model_isSign 12 = .ok (.iload_n 0, 1) := by decide +kernel
theorem d_Model_isSign_13 : decode b_Model_isSign 13 = .ok (.bipush 57, 2) := by decide +kernel
theorem d_Model_isSign_15 : decode b_Model_isSign 15 = .ok (.if_icmp .le 15, 3) := by decide +kernel
theorem d_Model_isSign_18 : decode b_Model_isSign 18 = .ok (.iload_n 0, 1) := by decide +kernel
theorem d_Model_isSign_19 : decode b_Model_isSign 19 = .ok (.bipush 65, 2) := by decide +kernel
theorem d_Model_isSign_21 : decode b_Model_isSign 21 = .ok (.if_icmp .lt 13, 3) := by decide +kernel
theorem d_Model_isSign_24 : decode b_Model_isSign 24 = .ok (.iload_n 0, 1) := by decide +kernel
theorem d_Model_isSign_25 : decode b_Model_isSign 25 = .ok (.bipush 90, 2) := by decide +kernel
theorem d_Model_isSign_27 : decode b_Model_isSign 27 = .ok (.if_icmp .gt 7, 3) := by decide +kernel
theorem d_Model_isSign_30 : decode b_Model_isSign 30 = .ok (.iconst 1, 1) := by decide +kernel
theorem d_Model_isSign_31 : decode b_Model_isSign 31 = .ok (.goto 4, 3) := by decide +kernel
theorem d_Model_isSign_34 : decode b_Model_isSign 34 = .ok (.iconst 0, 1) := by decide +kernel
theorem d_Model_isSign_35 : decode b_Model_isSign 35 = .ok (.ireturn, 1) := by decide +kernel
theorem d_Model_isSign : decode b_Model_isSign 0 = .ok (.iload_n 0, 1) ∧ decode b_Model_isSign 1 = .ok (.bipush 32, 2) ∧ decode b_Model_isSign 3 = .ok (.if_icmp .eq 27, 3) ∧ decode b_Model_isSign 6 = .ok (.iload_n 0, 1) ∧ decode b_Model_isSign 7 = .ok (.bipush 48, 2) ∧ decode b_Model_isSign 9 = .ok (.if_icmp .lt 9, 3) ∧ decode b_Model_isSign 12 = .ok (.iload_n 0, 1) ∧ decode b_Model_isSign 13 = .ok (.bipush 57, 2) ∧ decode b_Model_isSign 15 = .ok (.if_icmp .le 15, 3) ∧ decode b_Model_isSign 18 = .ok (.iload_n 0, 1) ∧ decode b_Model_isSign 19 = .ok (.bipush 65, 2) ∧ decode b_Model_isSign 21 = .ok (.if_icmp .lt 13, 3) ∧ decode b_Model_isSign 24 = .ok (.iload_n 0, 1) ∧ decode b_Model_isSign 25 = .ok (.bipush 90, 2) ∧ decode b_Model_isSign 27 = .ok (.if_icmp .gt 7, 3) ∧ decode b_Model_isSign 30 = .ok (.iconst 1, 1) ∧ decode b_Model_isSign 31 = .ok (.goto 4, 3) ∧ decode b_Model_isSign 34 = .ok (.iconst 0, 1) ∧ decode b_Model_isSign 35 = .ok (.ireturn, 1) := ⟨d_Model_isSign_0, d_Model_isSign_1, d_Model_isSign_3, d_Model_isSign_6, d_Model_isSign_7, d_Model_isSign_9, d_Model_isSign_12, d_Model_isSign_13, d_Model_isSign_15, d_Model_isSign_18, d_Model_isSign_19, d_Model_isSign_21, d_Model_isSign_24, d_Model_isSign_25, d_Model_isSign_27, d_Model_isSign_30, d_Model_isSign_31, d_Model_isSign_34, d_Model_isSign_35⟩
theorem s_Model_isSign : Cond.static y_Model_isSign ∈ nm_Ts ∧ Cond.initialized y_Model_isSign.cls ∈ nm_Ts ∧ Cond.code y_Model_isSign b_Model_isSign 1 (some .boolean) ∈ nm_Ts ∧ mz_cl1 y_Model_isSign 1 := ⟨nm_t4 155 rfl rfl, nm_t1 12 rfl rfl, nm_t4 156 rfl rfl, by decide +kernel⟩
def y_Model_newCard : MethodName := ⟨"CardOfficeModel", "newCard", "()I"⟩
abbrev b_Model_newCard : ByteArray := prog_14_method_14_code
def r_Model_newCard (c s : Nat) : Room := { frames := 0, cells := c, slots := s, locals := 0 }
theorem d_Model_newCard_0 : decode b_Model_newCard 0 = .ok (.iconst 0, 1) := by decide +kernel
theorem d_Model_newCard_1 : decode b_Model_newCard 1 = .ok (.istore_n 1, 1) := by decide +kernel
theorem d_Model_newCard_2 : decode b_Model_newCard 2 = .ok (.iload_n 1, 1) := by decide +kernel
theorem d_Model_newCard_3 : decode b_Model_newCard 3 = .ok (.bipush 16, 2) := by decide +kernel
theorem d_Model_newCard_5 : decode b_Model_newCard 5 = .ok (.if_icmp .ge 25, 3) := by decide +kernel
theorem d_Model_newCard_8 : decode b_Model_newCard 8 = .ok (.aload_n 0, 1) := by decide +kernel
theorem d_Model_newCard_9 : decode b_Model_newCard 9 = .ok (.getfield 7, 3) := by decide +kernel
theorem d_Model_newCard_12 : decode b_Model_newCard 12 = .ok (.bipush 16, 2) := by decide +kernel
theorem d_Model_newCard_14 : decode b_Model_newCard 14 = .ok (.aload_n 0, 1) := by decide +kernel
theorem d_Model_newCard_15 : decode b_Model_newCard 15 = .ok (.getfield 62, 3) := by decide +kernel
theorem d_Model_newCard_18 : decode b_Model_newCard 18 = .ok (.imul, 1) := by decide +kernel
theorem d_Model_newCard_19 : decode b_Model_newCard 19 = .ok (.iload_n 1, 1) := by decide +kernel
theorem d_Model_newCard_20 : decode b_Model_newCard 20 = .ok (.iadd, 1) := by decide +kernel
theorem d_Model_newCard_21 : decode b_Model_newCard 21 = .ok (.bipush 32, 2) := by decide +kernel
theorem d_Model_newCard_23 : decode b_Model_newCard 23 = .ok (.bastore, 1) := by decide +kernel
theorem d_Model_newCard_24 : decode b_Model_newCard 24 = .ok (.iinc 1 1, 3) := by decide +kernel
theorem d_Model_newCard_27 : decode b_Model_newCard 27 = .ok (.goto (-25), 3) := by decide +kernel
theorem d_Model_newCard_30 : decode b_Model_newCard 30 = .ok (.aload_n 0, 1) := by decide +kernel
theorem d_Model_newCard_31 : decode b_Model_newCard 31 = .ok (.dup, 1) := by decide +kernel
theorem d_Model_newCard_32 : decode b_Model_newCard 32 = .ok (.getfield 62, 3) := by decide +kernel
theorem d_Model_newCard_35 : decode b_Model_newCard 35 = .ok (.iconst 1, 1) := by decide +kernel
theorem d_Model_newCard_36 : decode b_Model_newCard 36 = .ok (.iadd, 1) := by decide +kernel
theorem d_Model_newCard_37 : decode b_Model_newCard 37 = .ok (.putfield 62, 3) := by decide +kernel
theorem d_Model_newCard_40 : decode b_Model_newCard 40 = .ok (.aload_n 0, 1) := by decide +kernel
theorem d_Model_newCard_41 : decode b_Model_newCard 41 = .ok (.getfield 62, 3) := by decide +kernel
theorem d_Model_newCard_44 : decode b_Model_newCard 44 = .ok (.iconst 1, 1) := by decide +kernel
theorem d_Model_newCard_45 : decode b_Model_newCard 45 = .ok (.isub, 1) := by decide +kernel
theorem d_Model_newCard_46 : decode b_Model_newCard 46 = .ok (.ireturn, 1) := by decide +kernel
theorem d_Model_newCard : decode b_Model_newCard 0 = .ok (.iconst 0, 1) ∧ decode b_Model_newCard 1 = .ok (.istore_n 1, 1) ∧ decode b_Model_newCard 2 = .ok (.iload_n 1, 1) ∧ decode b_Model_newCard 3 = .ok (.bipush 16, 2) ∧ decode b_Model_newCard 5 = .ok (.if_icmp .ge 25, 3) ∧ decode b_Model_newCard 8 = .ok (.aload_n 0, 1) ∧ decode b_Model_newCard 9 = .ok (.getfield 7, 3) ∧ decode b_Model_newCard 12 = .ok (.bipush 16, 2) ∧ decode b_Model_newCard 14 = .ok (.aload_n 0, 1) ∧ decode b_Model_newCard 15 = .ok (.getfield 62, 3) ∧ decode b_Model_newCard 18 = .ok (.imul, 1) ∧ decode b_Model_newCard 19 = .ok (.iload_n 1, 1) ∧ decode b_Model_newCard 20 = .ok (.iadd, 1) ∧ decode b_Model_newCard 21 = .ok (.bipush 32, 2) ∧ decode b_Model_newCard 23 = .ok (.bastore, 1) ∧ decode b_Model_newCard 24 = .ok (.iinc 1 1, 3) ∧ decode b_Model_newCard 27 = .ok (.goto (-25), 3) ∧ decode b_Model_newCard 30 = .ok (.aload_n 0, 1) ∧ decode b_Model_newCard 31 = .ok (.dup, 1) ∧ decode b_Model_newCard 32 = .ok (.getfield 62, 3) ∧ decode b_Model_newCard 35 = .ok (.iconst 1, 1) ∧ decode b_Model_newCard 36 = .ok (.iadd, 1) ∧ decode b_Model_newCard 37 = .ok (.putfield 62, 3) ∧ decode b_Model_newCard 40 = .ok (.aload_n 0, 1) ∧ decode b_Model_newCard 41 = .ok (.getfield 62, 3) ∧ decode b_Model_newCard 44 = .ok (.iconst 1, 1) ∧ decode b_Model_newCard 45 = .ok (.isub, 1) ∧ decode b_Model_newCard 46 = .ok (.ireturn, 1) := ⟨d_Model_newCard_0, d_Model_newCard_1, d_Model_newCard_2, d_Model_newCard_3, d_Model_newCard_5, d_Model_newCard_8, d_Model_newCard_9, d_Model_newCard_12, d_Model_newCard_14, d_Model_newCard_15, d_Model_newCard_18, d_Model_newCard_19, d_Model_newCard_20, d_Model_newCard_21, d_Model_newCard_23, d_Model_newCard_24, d_Model_newCard_27, d_Model_newCard_30, d_Model_newCard_31, d_Model_newCard_32, d_Model_newCard_35, d_Model_newCard_36, d_Model_newCard_37, d_Model_newCard_40, d_Model_newCard_41, d_Model_newCard_44, d_Model_newCard_45, d_Model_newCard_46⟩
theorem v_Model_newCard : Cond.instanceMethod y_Model_newCard ∈ nm_Ts ∧ Cond.selects y_Model_newCard.cls y_Model_newCard y_Model_newCard ∈ nm_Ts ∧ Cond.initialized y_Model_newCard.cls ∈ nm_Ts ∧ Cond.code y_Model_newCard b_Model_newCard 2 (some .int) ∈ nm_Ts ∧ mz_cl1 y_Model_newCard 0 := ⟨nm_t4 159 rfl rfl, nm_s 19 rfl rfl, nm_t1 12 rfl rfl, nm_t4 160 rfl rfl, by decide +kernel⟩
def y_Model_add : MethodName := ⟨"CardOfficeModel", "add", "(II)V"⟩
abbrev b_Model_add : ByteArray := prog_14_method_13_code
def r_Model_add (c s : Nat) : Room := { frames := 0, cells := c, slots := s, locals := 0 }
theorem d_Model_add_0 : decode b_Model_add 0 = .ok (.aload_n 0, 1) := by decide +kernel
theorem d_Model_add_1 : decode b_Model_add 1 = .ok (.getfield 13, 3) := by decide +kernel
theorem d_Model_add_4 : decode b_Model_add 4 = .ok (.sipush 200, 3) := by decide +kernel
theorem d_Model_add_7 : decode b_Model_add 7 = .ok (.iload_n 1, 1) := by decide +kernel
theorem d_Model_add_8 : decode b_Model_add 8 = .ok (.imul, 1) := by decide +kernel
theorem d_Model_add_9 : decode b_Model_add 9 = .ok (.aload_n 0, 1) := by decide +kernel
theorem d_Model_add_10 : decode b_Model_add 10 = .ok (.getfield 17, 3) := by decide +kernel
theorem d_Model_add_13 : decode b_Model_add 13 = .ok (.iload_n 1, 1) := by decide +kernel
theorem d_Model_add_14 : decode b_Model_add 14 = .ok (.iaload, 1) := by decide +kernel
theorem d_Model_add_15 : decode b_Model_add 15 = .ok (.iadd, 1) := by decide +kernel
theorem d_Model_add_16 : decode b_Model_add 16 = .ok (.iload_n 2, 1) := by decide +kernel
theorem d_Model_add_17 : decode b_Model_add 17 = .ok (.i2s, 1) := by decide +kernel
theorem d_Model_add_18 : decode b_Model_add 18 = .ok (.sastore, 1) := by decide +kernel
theorem d_Model_add_19 : decode b_Model_add 19 = .ok (.aload_n 0, 1) := by decide +kernel
theorem d_Model_add_20 : decode b_Model_add 20 = .ok (.getfield 17, 3) := by decide +kernel
theorem d_Model_add_23 : decode b_Model_add 23 = .ok (.iload_n 1, 1) := by decide +kernel
theorem d_Model_add_24 : decode b_Model_add 24 = .ok (.dup2, 1) := by decide +kernel
theorem d_Model_add_25 : decode b_Model_add 25 = .ok (.iaload, 1) := by decide +kernel
theorem d_Model_add_26 : decode b_Model_add 26 = .ok (.iconst 1, 1) := by decide +kernel
theorem d_Model_add_27 : decode b_Model_add 27 = .ok (.iadd, 1) := by decide +kernel
theorem d_Model_add_28 : decode b_Model_add 28 = .ok (.iastore, 1) := by decide +kernel
theorem d_Model_add_29 : decode b_Model_add 29 = .ok (.return_, 1) := by decide +kernel
theorem d_Model_add : decode b_Model_add 0 = .ok (.aload_n 0, 1) ∧ decode b_Model_add 1 = .ok (.getfield 13, 3) ∧ decode b_Model_add 4 = .ok (.sipush 200, 3) ∧ decode b_Model_add 7 = .ok (.iload_n 1, 1) ∧ decode b_Model_add 8 = .ok (.imul, 1) ∧ decode b_Model_add 9 = .ok (.aload_n 0, 1) ∧ decode b_Model_add 10 = .ok (.getfield 17, 3) ∧ decode b_Model_add 13 = .ok (.iload_n 1, 1) ∧ decode b_Model_add 14 = .ok (.iaload, 1) ∧ decode b_Model_add 15 = .ok (.iadd, 1) ∧ decode b_Model_add 16 = .ok (.iload_n 2, 1) ∧ decode b_Model_add 17 = .ok (.i2s, 1) ∧ decode b_Model_add 18 = .ok (.sastore, 1) ∧ decode b_Model_add 19 = .ok (.aload_n 0, 1) ∧ decode b_Model_add 20 = .ok (.getfield 17, 3) ∧ decode b_Model_add 23 = .ok (.iload_n 1, 1) ∧ decode b_Model_add 24 = .ok (.dup2, 1) ∧ decode b_Model_add 25 = .ok (.iaload, 1) ∧ decode b_Model_add 26 = .ok (.iconst 1, 1) ∧ decode b_Model_add 27 = .ok (.iadd, 1) ∧ decode b_Model_add 28 = .ok (.iastore, 1) ∧ decode b_Model_add 29 = .ok (.return_, 1) := ⟨d_Model_add_0, d_Model_add_1, d_Model_add_4, d_Model_add_7, d_Model_add_8, d_Model_add_9, d_Model_add_10, d_Model_add_13, d_Model_add_14, d_Model_add_15, d_Model_add_16, d_Model_add_17, d_Model_add_18, d_Model_add_19, d_Model_add_20, d_Model_add_23, d_Model_add_24, d_Model_add_25, d_Model_add_26, d_Model_add_27, d_Model_add_28, d_Model_add_29⟩
theorem v_Model_add : Cond.instanceMethod y_Model_add ∈ nm_Ts ∧ Cond.selects y_Model_add.cls y_Model_add y_Model_add ∈ nm_Ts ∧ Cond.initialized y_Model_add.cls ∈ nm_Ts ∧ Cond.code y_Model_add b_Model_add 3 none ∈ nm_Ts ∧ mz_cl1 y_Model_add 2 := ⟨nm_t4 163 rfl rfl, nm_s 20 rfl rfl, nm_t1 12 rfl rfl, nm_t4 164 rfl rfl, by decide +kernel⟩
def y_Model_wire : MethodName := ⟨"CardOfficeModel", "wire", "(III)Z"⟩
abbrev b_Model_wire : ByteArray := prog_14_method_18_code
def r_Model_wire (c s : Nat) : Room := { frames := 1, cells := c, slots := s, locals := 20 }
theorem d_Model_wire_0 : decode b_Model_wire 0 = .ok (.aload_n 0, 1) := by decide +kernel
theorem d_Model_wire_1 : decode b_Model_wire 1 = .ok (.iconst 0, 1) := by decide +kernel
theorem d_Model_wire_2 : decode b_Model_wire 2 = .ok (.putfield 52, 3) := by decide +kernel
theorem d_Model_wire_5 : decode b_Model_wire 5 = .ok (.iload_n 1, 1) := by decide +kernel
theorem d_Model_wire_6 : decode b_Model_wire 6 = .ok (.invokestatic 82, 3) := by decide +kernel
theorem d_Model_wire_9 : decode b_Model_wire 9 = .ok (.ifCond .eq 28, 3) := by decide +kernel
theorem d_Model_wire_12 : decode b_Model_wire 12 = .ok (.iload_n 2, 1) := by decide +kernel
theorem d_Model_wire_13 : decode b_Model_wire 13 = .ok (.invokestatic 85, 3) := by decide +kernel
theorem d_Model_wire_16 : decode b_Model_wire 16 = .ok (.ifCond .eq 21, 3) := by decide +kernel
theorem d_Model_wire_19 : decode b_Model_wire 19 = .ok (.iload_n 3, 1) := by decide +kernel
theorem d_Model_wire_20 : decode b_Model_wire 20 = .ok (.invokestatic 88, 3) := by decide +kernel
theorem d_Model_wire_23 : decode b_Model_wire 23 = .ok (.ifCond .eq 14, 3) := by decide +kernel
theorem d_Model_wire_26 : decode b_Model_wire 26 = .ok (.aload_n 0, 1) := by decide +kernel
theorem d_Model_wire_27 : decode b_Model_wire 27 = .ok (.getfield 33, 3) := by decide +kernel
theorem d_Model_wire_30 : decode b_Model_wire 30 = .ok (.iload_n 1, 1) := by decide +kernel
theorem d_Model_wire_31 : decode b_Model_wire 31 = .ok (.iaload, 1) := by decide +kernel
theorem d_Model_wire_32 : decode b_Model_wire 32 = .ok (.bipush 40, 2) := by decide +kernel
theorem d_Model_wire_34 : decode b_Model_wire 34 = .ok (.if_icmp .ne 5, 3) := by decide +kernel
theorem d_Model_wire_37 : decode b_Model_wire 37 = .ok (.iconst 0, 1) := by decide +kernel
theorem d_Model_wire_38 : decode b_Model_wire 38 = .ok (.ireturn, 1) := by decide +kernel
theorem d_Model_wire_39 : decode b_Model_wire 39 = .ok (.bipush 40, 2) := by decide +kernel
theorem d_Model_wire_41 : decode b_Model_wire 41 = .ok (.iload_n 1, 1) := by decide +kernel
theorem d_Model_wire_42 : decode b_Model_wire 42 = .ok (.imul, 1) := by decide +kernel
theorem d_Model_wire_43 : decode b_Model_wire 43 = .ok (.istore 4, 2) := by decide +kernel
theorem d_Model_wire_45 : decode b_Model_wire 45 = .ok (.iload 4, 2) := by decide +kernel
theorem d_Model_wire_47 : decode b_Model_wire 47 = .ok (.bipush 40, 2) := by decide +kernel
theorem d_Model_wire_49 : decode b_Model_wire 49 = .ok (.iload_n 1, 1) := by decide +kernel
theorem d_Model_wire_50 : decode b_Model_wire 50 = .ok (.imul, 1) := by decide +kernel
theorem d_Model_wire_51 : decode b_Model_wire 51 = .ok (.aload_n 0, 1) := by decide +kernel
theorem d_Model_wire_52 : decode b_Model_wire 52 = .ok (.getfield 33, 3) := by decide +kernel
theorem d_Model_wire_55 : decode b_Model_wire 55 = .ok (.iload_n 1, 1) := by decide +kernel
theorem d_Model_wire_56 : decode b_Model_wire 56 = .ok (.iaload, 1) := by decide +kernel
theorem d_Model_wire_57 : decode b_Model_wire 57 = .ok (.iadd, 1) := by decide +kernel
theorem d_Model_wire_58 : decode b_Model_wire 58 = .ok (.if_icmp .ge 33, 3) := by decide +kernel
theorem d_Model_wire_61 : decode b_Model_wire 61 = .ok (.aload_n 0, 1) := by decide +kernel
theorem d_Model_wire_62 : decode b_Model_wire 62 = .ok (.getfield 27, 3) := by decide +kernel
theorem d_Model_wire_65 : decode b_Model_wire 65 = .ok (.iload 4, 2) := by decide +kernel
theorem d_Model_wire_67 : decode b_Model_wire 67 = .ok (.baload, 1) := by decide +kernel
theorem d_Model_wire_68 : decode b_Model_wire 68 = .ok (.iload_n 2, 1) := by decide +kernel
theorem d_Model_wire_69 : decode b_Model_wire 69 = .ok (.if_icmp .ne 16, 3) := by decide +kernel
theorem d_Model_wire_72 : decode b_Model_wire 72 = .ok (.aload_n 0, 1) := by decide +kernel
theorem d_Model_wire_73 : decode b_Model_wire 73 = .ok (.getfield 30, 3) := by decide +kernel
theorem d_Model_wire_76 : decode b_Model_wire 76 = .ok (.iload 4, 2) := by decide +kernel
theorem d_Model_wire_78 : decode b_Model_wire 78 = .ok (.baload, 1) := by decide +kernel
theorem d_Model_wire_79 : decode b_Model_wire 79 = .ok (.iload_n 3, 1) := by decide +kernel
theorem d_Model_wire_80 : decode b_Model_wire 80 = .ok (.if_icmp .ne 5, 3) := by decide +kernel
theorem d_Model_wire_83 : decode b_Model_wire 83 = .ok (.iconst 0, 1) := by decide +kernel
theorem d_Model_wire_84 : decode b_Model_wire 84 = .ok (.ireturn, 1) := by decide +kernel
theorem d_Model_wire_85 : decode b_Model_wire 85 = .ok (.iinc 4 1, 3) := by decide +kernel
theorem d_Model_wire_88 : decode b_Model_wire 88 = .ok (.goto (-43), 3) := by decide +kernel
theorem d_Model_wire_91 : decode b_Model_wire 91 = .ok (.aload_n 0, 1) := by decide +kernel
theorem d_Model_wire_92 : decode b_Model_wire 92 = .ok (.getfield 27, 3) := by decide +kernel
theorem d_Model_wire_95 : decode b_Model_wire 95 = .ok (.bipush 40, 2) := by decide +kernel
theorem d_Model_wire_97 : decode b_Model_wire 97 = .ok (.iload_n 1, 1) := by decide +kernel
theorem d_Model_wire_98 : decode b_Model_wire 98 = .ok (.imul, 1) := by decide +kernel
theorem d_Model_wire_99 : decode b_Model_wire 99 = .ok (.aload_n 0, 1) := by decide +kernel
theorem d_Model_wire_100 : decode b_Model_wire 100 = .ok (.getfield 33, 3) := by decide +kernel
theorem d_Model_wire_103 : decode b_Model_wire 103 = .ok (.iload_n 1, 1) := by decide +kernel
theorem d_Model_wire_104 : decode b_Model_wire 104 = .ok (.iaload, 1) := by decide +kernel
theorem d_Model_wire_105 : decode b_Model_wire 105 = .ok (.iadd, 1) := by decide +kernel
theorem d_Model_wire_106 : decode b_Model_wire 106 = .ok (.iload_n 2, 1) := by decide +kernel
theorem d_Model_wire_107 : decode b_Model_wire 107 = .ok (.i2b, 1) := by decide +kernel
theorem d_Model_wire_108 : decode b_Model_wire 108 = .ok (.bastore, 1) := by decide +kernel
theorem d_Model_wire_109 : decode b_Model_wire 109 = .ok (.aload_n 0, 1) := by decide +kernel
theorem d_Model_wire_110 : decode b_Model_wire 110 = .ok (.getfield 30, 3) := by decide +kernel
theorem d_Model_wire_113 : decode b_Model_wire 113 = .ok (.bipush 40, 2) := by decide +kernel
theorem d_Model_wire_115 : decode b_Model_wire 115 = .ok (.iload_n 1, 1) := by decide +kernel
theorem d_Model_wire_116 : decode b_Model_wire 116 = .ok (.imul, 1) := by decide +kernel
theorem d_Model_wire_117 : decode b_Model_wire 117 = .ok (.aload_n 0, 1) := by decide +kernel
theorem d_Model_wire_118 : decode b_Model_wire 118 = .ok (.getfield 33, 3) := by decide +kernel
theorem d_Model_wire_121 : decode b_Model_wire 121 = .ok (.iload_n 1, 1) := by decide +kernel
theorem d_Model_wire_122 : decode b_Model_wire 122 = .ok (.iaload, 1) := by decide +kernel
theorem d_Model_wire_123 : decode b_Model_wire 123 = .ok (.iadd, 1) := by decide +kernel
theorem d_Model_wire_124 : decode b_Model_wire 124 = .ok (.iload_n 3, 1) := by decide +kernel
theorem d_Model_wire_125 : decode b_Model_wire 125 = .ok (.i2b, 1) := by decide +kernel
theorem d_Model_wire_126 : decode b_Model_wire 126 = .ok (.bastore, 1) := by decide +kernel
theorem d_Model_wire_127 : decode b_Model_wire 127 = .ok (.aload_n 0, 1) := by decide +kernel
theorem d_Model_wire_128 : decode b_Model_wire 128 = .ok (.getfield 33, 3) := by decide +kernel
theorem d_Model_wire_131 : decode b_Model_wire 131 = .ok (.iload_n 1, 1) := by decide +kernel
theorem d_Model_wire_132 : decode b_Model_wire 132 = .ok (.dup2, 1) := by decide +kernel
theorem d_Model_wire_133 : decode b_Model_wire 133 = .ok (.iaload, 1) := by decide +kernel
theorem d_Model_wire_134 : decode b_Model_wire 134 = .ok (.iconst 1, 1) := by decide +kernel
theorem d_Model_wire_135 : decode b_Model_wire 135 = .ok (.iadd, 1) := by decide +kernel
theorem d_Model_wire_136 : decode b_Model_wire 136 = .ok (.iastore, 1) := by decide +kernel
theorem d_Model_wire_137 : decode b_Model_wire 137 = .ok (.iconst 1, 1) := by decide +kernel
theorem d_Model_wire_138 : decode b_Model_wire 138 = .ok (.ireturn, 1) := by decide +kernel
theorem d_Model_wire : decode b_Model_wire 0 = .ok (.aload_n 0, 1) ∧ decode b_Model_wire 1 = .ok (.iconst 0, 1) ∧ decode b_Model_wire 2 = .ok (.putfield 52, 3) ∧ decode b_Model_wire 5 = .ok (.iload_n 1, 1) ∧ decode b_Model_wire 6 = .ok (.invokestatic 82, 3) ∧ decode b_Model_wire 9 = .ok (.ifCond .eq 28, 3) ∧ decode b_Model_wire 12 = .ok (.iload_n 2, 1) ∧ decode b_Model_wire 13 = .ok (.invokestatic 85, 3) ∧ decode b_Model_wire 16 = .ok (.ifCond .eq 21, 3) ∧ decode b_Model_wire 19 = .ok (.iload_n 3, 1) ∧ decode b_Model_wire 20 = .ok (.invokestatic 88, 3) ∧ decode b_Model_wire 23 = .ok (.ifCond .eq 14, 3) ∧ decode b_Model_wire 26 = .ok (.aload_n 0, 1) ∧ decode b_Model_wire 27 = .ok (.getfield 33, 3) ∧ decode b_Model_wire 30 = .ok (.iload_n 1, 1) ∧ decode b_Model_wire 31 = .ok (.iaload, 1) ∧ decode b_Model_wire 32 = .ok (.bipush 40, 2) ∧ decode b_Model_wire 34 = .ok (.if_icmp .ne 5, 3) ∧ decode b_Model_wire 37 = .ok (.iconst 0, 1) ∧ decode b_Model_wire 38 = .ok (.ireturn, 1) ∧ decode b_Model_wire 39 = .ok (.bipush 40, 2) ∧ decode b_Model_wire 41 = .ok (.iload_n 1, 1) ∧ decode b_Model_wire 42 = .ok (.imul, 1) ∧ decode b_Model_wire 43 = .ok (.istore 4, 2) ∧ decode b_Model_wire 45 = .ok (.iload 4, 2) ∧ decode b_Model_wire 47 = .ok (.bipush 40, 2) ∧ decode b_Model_wire 49 = .ok (.iload_n 1, 1) ∧ decode b_Model_wire 50 = .ok (.imul, 1) ∧ decode b_Model_wire 51 = .ok (.aload_n 0, 1) ∧ decode b_Model_wire 52 = .ok (.getfield 33, 3) ∧ decode b_Model_wire 55 = .ok (.iload_n 1, 1) ∧ decode b_Model_wire 56 = .ok (.iaload, 1) ∧ decode b_Model_wire 57 = .ok (.iadd, 1) ∧ decode b_Model_wire 58 = .ok (.if_icmp .ge 33, 3) ∧ decode b_Model_wire 61 = .ok (.aload_n 0, 1) ∧ decode b_Model_wire 62 = .ok (.getfield 27, 3) ∧ decode b_Model_wire 65 = .ok (.iload 4, 2) ∧ decode b_Model_wire 67 = .ok (.baload, 1) ∧ decode b_Model_wire 68 = .ok (.iload_n 2, 1) ∧ decode b_Model_wire 69 = .ok (.if_icmp .ne 16, 3) ∧ decode b_Model_wire 72 = .ok (.aload_n 0, 1) ∧ decode b_Model_wire 73 = .ok (.getfield 30, 3) ∧ decode b_Model_wire 76 = .ok (.iload 4, 2) ∧ decode b_Model_wire 78 = .ok (.baload, 1) ∧ decode b_Model_wire 79 = .ok (.iload_n 3, 1) ∧ decode b_Model_wire 80 = .ok (.if_icmp .ne 5, 3) ∧ decode b_Model_wire 83 = .ok (.iconst 0, 1) ∧ decode b_Model_wire 84 = .ok (.ireturn, 1) ∧ decode b_Model_wire 85 = .ok (.iinc 4 1, 3) ∧ decode b_Model_wire 88 = .ok (.goto (-43), 3) ∧ decode b_Model_wire 91 = .ok (.aload_n 0, 1) ∧ decode b_Model_wire 92 = .ok (.getfield 27, 3) ∧ decode b_Model_wire 95 = .ok (.bipush 40, 2) ∧ decode b_Model_wire 97 = .ok (.iload_n 1, 1) ∧ decode b_Model_wire 98 = .ok (.imul, 1) ∧ decode b_Model_wire 99 = .ok (.aload_n 0, 1) ∧ decode b_Model_wire 100 = .ok (.getfield 33, 3) ∧ decode b_Model_wire 103 = .ok (.iload_n 1, 1) ∧ decode b_Model_wire 104 = .ok (.iaload, 1) ∧ decode b_Model_wire 105 = .ok (.iadd, 1) ∧ decode b_Model_wire 106 = .ok (.iload_n 2, 1) ∧ decode b_Model_wire 107 = .ok (.i2b, 1) ∧ decode b_Model_wire 108 = .ok (.bastore, 1) ∧ decode b_Model_wire 109 = .ok (.aload_n 0, 1) ∧ decode b_Model_wire 110 = .ok (.getfield 30, 3) ∧ decode b_Model_wire 113 = .ok (.bipush 40, 2) ∧ decode b_Model_wire 115 = .ok (.iload_n 1, 1) ∧ decode b_Model_wire 116 = .ok (.imul, 1) ∧ decode b_Model_wire 117 = .ok (.aload_n 0, 1) ∧ decode b_Model_wire 118 = .ok (.getfield 33, 3) ∧ decode b_Model_wire 121 = .ok (.iload_n 1, 1) ∧ decode b_Model_wire 122 = .ok (.iaload, 1) ∧ decode b_Model_wire 123 = .ok (.iadd, 1) ∧ decode b_Model_wire 124 = .ok (.iload_n 3, 1) ∧ decode b_Model_wire 125 = .ok (.i2b, 1) ∧ decode b_Model_wire 126 = .ok (.bastore, 1) ∧ decode b_Model_wire 127 = .ok (.aload_n 0, 1) ∧ decode b_Model_wire 128 = .ok (.getfield 33, 3) ∧ decode b_Model_wire 131 = .ok (.iload_n 1, 1) ∧ decode b_Model_wire 132 = .ok (.dup2, 1) ∧ decode b_Model_wire 133 = .ok (.iaload, 1) ∧ decode b_Model_wire 134 = .ok (.iconst 1, 1) ∧ decode b_Model_wire 135 = .ok (.iadd, 1) ∧ decode b_Model_wire 136 = .ok (.iastore, 1) ∧ decode b_Model_wire 137 = .ok (.iconst 1, 1) ∧ decode b_Model_wire 138 = .ok (.ireturn, 1) := ⟨d_Model_wire_0, d_Model_wire_1, d_Model_wire_2, d_Model_wire_5, d_Model_wire_6, d_Model_wire_9, d_Model_wire_12, d_Model_wire_13, d_Model_wire_16, d_Model_wire_19, d_Model_wire_20, d_Model_wire_23, d_Model_wire_26, d_Model_wire_27, d_Model_wire_30, d_Model_wire_31, d_Model_wire_32, d_Model_wire_34, d_Model_wire_37, d_Model_wire_38, d_Model_wire_39, d_Model_wire_41, d_Model_wire_42, d_Model_wire_43, d_Model_wire_45, d_Model_wire_47, d_Model_wire_49, d_Model_wire_50, d_Model_wire_51, d_Model_wire_52, d_Model_wire_55, d_Model_wire_56, d_Model_wire_57, d_Model_wire_58, d_Model_wire_61, d_Model_wire_62, d_Model_wire_65, d_Model_wire_67, d_Model_wire_68, d_Model_wire_69, d_Model_wire_72, d_Model_wire_73, d_Model_wire_76, d_Model_wire_78, d_Model_wire_79, d_Model_wire_80, d_Model_wire_83, d_Model_wire_84, d_Model_wire_85, d_Model_wire_88, d_Model_wire_91, d_Model_wire_92, d_Model_wire_95, d_Model_wire_97, d_Model_wire_98, d_Model_wire_99, d_Model_wire_100, d_Model_wire_103, d_Model_wire_104, d_Model_wire_105, d_Model_wire_106, d_Model_wire_107, d_Model_wire_108, d_Model_wire_109, d_Model_wire_110, d_Model_wire_113, d_Model_wire_115, d_Model_wire_116, d_Model_wire_117, d_Model_wire_118, d_Model_wire_121, d_Model_wire_122, d_Model_wire_123, d_Model_wire_124, d_Model_wire_125, d_Model_wire_126, d_Model_wire_127, d_Model_wire_128, d_Model_wire_131, d_Model_wire_132, d_Model_wire_133, d_Model_wire_134, d_Model_wire_135, d_Model_wire_136, d_Model_wire_137, d_Model_wire_138⟩
theorem v_Model_wire : Cond.instanceMethod y_Model_wire ∈ nm_Ts ∧ Cond.selects y_Model_wire.cls y_Model_wire y_Model_wire ∈ nm_Ts ∧ Cond.initialized y_Model_wire.cls ∈ nm_Ts ∧ Cond.code y_Model_wire b_Model_wire 5 (some .boolean) ∈ nm_Ts ∧ mz_cl1 y_Model_wire 3 := ⟨nm_t4 166 rfl rfl, nm_t4 167 rfl rfl, nm_t1 12 rfl rfl, nm_t4 168 rfl rfl, by decide +kernel⟩
def y_Model_isBoard : MethodName := ⟨"CardOfficeModel", "isBoard", "(I)Z"⟩
abbrev b_Model_isBoard : ByteArray := prog_14_method_12_code
def r_Model_isBoard (c s : Nat) : Room := { frames := 0, cells := c, slots := s, locals := 0 }
theorem d_Model_isBoard_0 : decode b_Model_isBoard 0 = .ok (.iload_n 0, 1) := by decide +kernel
theorem d_Model_isBoard_1 : decode b_Model_isBoard 1 = .ok (.ifCond .lt 12, 3) := by decide +kernel
theorem d_Model_isBoard_4 : decode b_Model_isBoard 4 = .ok (.iload_n 0, 1) := by decide +kernel
theorem d_Model_isBoard_5 : decode b_Model_isBoard 5 = .ok (.iconst 4, 1) := by decide +kernel
theorem d_Model_isBoard_6 : decode b_Model_isBoard 6 = .ok (.if_icmp .ge 7, 3) := by decide +kernel
theorem d_Model_isBoard_9 : decode b_Model_isBoard 9 = .ok (.iconst 1, 1) := by decide +kernel
theorem d_Model_isBoard_10 : decode b_Model_isBoard 10 = .ok (.goto 4, 3) := by decide +kernel
theorem d_Model_isBoard_13 : decode b_Model_isBoard 13 = .ok (.iconst 0, 1) := by decide +kernel
theorem d_Model_isBoard_14 : decode b_Model_isBoard 14 = .ok (.ireturn, 1) := by decide +kernel
theorem d_Model_isBoard : decode b_Model_isBoard 0 = .ok (.iload_n 0, 1) ∧ decode b_Model_isBoard 1 = .ok (.ifCond .lt 12, 3) ∧ decode b_Model_isBoard 4 = .ok (.iload_n 0, 1) ∧ decode b_Model_isBoard 5 = .ok (.iconst 4, 1) ∧ decode b_Model_isBoard 6 = .ok (.if_icmp .ge 7, 3) ∧ decode b_Model_isBoard 9 = .ok (.iconst 1, 1) ∧ decode b_Model_isBoard 10 = .ok (.goto 4, 3) ∧ decode b_Model_isBoard 13 = .ok (.iconst 0, 1) ∧ decode b_Model_isBoard 14 = .ok (.ireturn, 1) := ⟨d_Model_isBoard_0, d_Model_isBoard_1, d_Model_isBoard_4, d_Model_isBoard_5, d_Model_isBoard_6, d_Model_isBoard_9, d_Model_isBoard_10, d_Model_isBoard_13, d_Model_isBoard_14⟩
theorem s_Model_isBoard : Cond.static y_Model_isBoard ∈ nm_Ts ∧ Cond.initialized y_Model_isBoard.cls ∈ nm_Ts ∧ Cond.code y_Model_isBoard b_Model_isBoard 1 (some .boolean) ∈ nm_Ts ∧ mz_cl1 y_Model_isBoard 1 := ⟨nm_t4 170 rfl rfl, nm_t1 12 rfl rfl, nm_t4 171 rfl rfl, by decide +kernel⟩
def y_Model_isFrom : MethodName := ⟨"CardOfficeModel", "isFrom", "(I)Z"⟩
abbrev b_Model_isFrom : ByteArray := prog_14_method_16_code
def r_Model_isFrom (c s : Nat) : Room := { frames := 0, cells := c, slots := s, locals := 0 }
theorem d_Model_isFrom_0 : decode b_Model_isFrom 0 = .ok (.iload_n 0, 1) := by decide +kernel
theorem d_Model_isFrom_1 : decode b_Model_isFrom 1 = .ok (.ifCond .lt 9, 3) := by decide +kernel
theorem d_Model_isFrom_4 : decode b_Model_isFrom 4 = .ok (.iload_n 0, 1) := by decide +kernel
theorem d_Model_isFrom_5 : decode b_Model_isFrom 5 = .ok (.bipush 26, 2) := by decide +kernel
theorem d_Model_isFrom_7 : decode b_Model_isFrom 7 = .ok (.if_icmp .lt 15, 3) := by decide +kernel
theorem d_Model_isFrom_10 : decode b_Model_isFrom 10 = .ok (.iload_n 0, 1) := by decide +kernel
theorem d_Model_isFrom_11 : decode b_Model_isFrom 11 = .ok (.bipush 32, 2) := by decide +kernel
theorem d_Model_isFrom_13 : decode b_Model_isFrom 13 = .ok (.if_icmp .lt 13, 3) := by decide +kernel
theorem d_Model_isFrom_16 : decode b_Model_isFrom 16 = .ok (.iload_n 0, 1) := by decide +kernel
theorem d_Model_isFrom_17 : decode b_Model_isFrom 17 = .ok (.bipush 56, 2) := by decide +kernel
theorem d_Model_isFrom_19 : decode b_Model_isFrom 19 = .ok (.if_icmp .ge 7, 3) := by decide +kernel
theorem d_Model_isFrom_22 : decode b_Model_isFrom 22 = .ok (.iconst 1, 1) := by decide +kernel
theorem d_Model_isFrom_23 : decode b_Model_isFrom 23 = .ok (.goto 4, 3) := by decide +kernel
theorem d_Model_isFrom_26 : decode b_Model_isFrom 26 = .ok (.iconst 0, 1) := by decide +kernel
theorem d_Model_isFrom_27 : decode b_Model_isFrom 27 = .ok (.ireturn, 1) := by decide +kernel
theorem d_Model_isFrom : decode b_Model_isFrom 0 = .ok (.iload_n 0, 1) ∧ decode b_Model_isFrom 1 = .ok (.ifCond .lt 9, 3) ∧ decode b_Model_isFrom 4 = .ok (.iload_n 0, 1) ∧ decode b_Model_isFrom 5 = .ok (.bipush 26, 2) ∧ decode b_Model_isFrom 7 = .ok (.if_icmp .lt 15, 3) ∧ decode b_Model_isFrom 10 = .ok (.iload_n 0, 1) ∧ decode b_Model_isFrom 11 = .ok (.bipush 32, 2) ∧ decode b_Model_isFrom 13 = .ok (.if_icmp .lt 13, 3) ∧ decode b_Model_isFrom 16 = .ok (.iload_n 0, 1) ∧ decode b_Model_isFrom 17 = .ok (.bipush 56, 2) ∧ decode b_Model_isFrom 19 = .ok (.if_icmp .ge 7, 3) ∧ decode b_Model_isFrom 22 = .ok (.iconst 1, 1) ∧ decode b_Model_isFrom 23 = .ok (.goto 4, 3) ∧ decode b_Model_isFrom 26 = .ok (.iconst 0, 1) ∧ decode b_Model_isFrom 27 = .ok (.ireturn, 1) := ⟨d_Model_isFrom_0, d_Model_isFrom_1, d_Model_isFrom_4, d_Model_isFrom_5, d_Model_isFrom_7, d_Model_isFrom_10, d_Model_isFrom_11, d_Model_isFrom_13, d_Model_isFrom_16, d_Model_isFrom_17, d_Model_isFrom_19, d_Model_isFrom_22, d_Model_isFrom_23, d_Model_isFrom_26, d_Model_isFrom_27⟩
theorem s_Model_isFrom : Cond.static y_Model_isFrom ∈ nm_Ts ∧ Cond.initialized y_Model_isFrom.cls ∈ nm_Ts ∧ Cond.code y_Model_isFrom b_Model_isFrom 1 (some .boolean) ∈ nm_Ts ∧ mz_cl1 y_Model_isFrom 1 := ⟨nm_t4 173 rfl rfl, nm_t1 12 rfl rfl, nm_t4 174 rfl rfl, by decide +kernel⟩
def y_Model_isTo : MethodName := ⟨"CardOfficeModel", "isTo", "(I)Z"⟩
abbrev b_Model_isTo : ByteArray := prog_14_method_17_code
def r_Model_isTo (c s : Nat) : Room := { frames := 0, cells := c, slots := s, locals := 0 }
theorem d_Model_isTo_0 : decode b_Model_isTo 0 = .ok (.iload_n 0, 1) := by decide +kernel
theorem d_Model_isTo_1 : decode b_Model_isTo 1 = .ok (.ifCond .lt 9, 3) := by decide +kernel
theorem d_Model_isTo_4 : decode b_Model_isTo 4 = .ok (.iload_n 0, 1) := by decide +kernel
theorem d_Model_isTo_5 : decode b_Model_isTo 5 = .ok (.bipush 16, 2) := by decide +kernel
theorem d_Model_isTo_7 : decode b_Model_isTo 7 = .ok (.if_icmp .lt 39, 3) := by decide +kernel
theorem d_Model_isTo_10 : decode b_Model_isTo 10 = .ok (.iload_n 0, 1) := by decide +kernel
theorem d_Model_isTo_11 : decode b_Model_isTo 11 = .ok (.bipush 32, 2) := by decide +kernel
theorem d_Model_isTo_13 : decode b_Model_isTo 13 = .ok (.if_icmp .lt 9, 3) := by decide +kernel
theorem d_Model_isTo_16 : decode b_Model_isTo 16 = .ok (.iload_n 0, 1) := by decide +kernel
theorem d_Model_isTo_17 : decode b_Model_isTo 17 = .ok (.bipush 56, 2) := by decide +kernel
theorem d_Model_isTo_19 : decode b_Model_isTo 19 = .ok (.if_icmp .lt 27, 3) := by decide +kernel
theorem d_Model_isTo_22 : decode b_Model_isTo 22 = .ok (.iload_n 0, 1) := by decide +kernel
theorem d_Model_isTo_23 : decode b_Model_isTo 23 = .ok (.bipush 64, 2) := by decide +kernel
theorem d_Model_isTo_25 : decode b_Model_isTo 25 = .ok (.if_icmp .lt 9, 3) := by decide +kernel
theorem d_Model_isTo_28 : decode b_Model_isTo 28 = .ok (.iload_n 0, 1) := by decide +kernel
theorem d_Model_isTo_29 : decode b_Model_isTo 29 = .ok (.bipush 88, 2) := by decide +kernel
theorem d_Model_isTo_31 : decode b_Model_isTo 31 = .ok (.if_icmp .lt 15, 3) := by decide +kernel
theorem d_Model_isTo_34 : decode b_Model_isTo 34 = .ok (.iload_n 0, 1) := by decide +kernel
theorem d_Model_isTo_35 : decode b_Model_isTo 35 = .ok (.bipush 96, 2) := by decide +kernel
theorem d_Model_isTo_37 : decode b_Model_isTo 37 = .ok (.if_icmp .lt 13, 3) := by decide +kernel
theorem d_Model_isTo_40 : decode b_Model_isTo 40 = .ok (.iload_n 0, 1) := by decide +kernel
theorem d_Model_isTo_41 : decode b_Model_isTo 41 = .ok (.bipush 100, 2) := by decide +kernel
theorem d_Model_isTo_43 : decode b_Model_isTo 43 = .ok (.if_icmp .ge 7, 3) := by decide +kernel
theorem d_Model_isTo_46 : decode b_Model_isTo 46 = .ok (.iconst 1, 1) := by decide +kernel
theorem d_Model_isTo_47 : decode b_Model_isTo 47 = .ok (.goto 4, 3) := by decide +kernel
theorem d_Model_isTo_50 : decode b_Model_isTo 50 = .ok (.iconst 0, 1) := by decide +kernel
theorem d_Model_isTo_51 : decode b_Model_isTo 51 = .ok (.ireturn, 1) := by decide +kernel
theorem d_Model_isTo : decode b_Model_isTo 0 = .ok (.iload_n 0, 1) ∧ decode b_Model_isTo 1 = .ok (.ifCond .lt 9, 3) ∧ decode b_Model_isTo 4 = .ok (.iload_n 0, 1) ∧ decode b_Model_isTo 5 = .ok (.bipush 16, 2) ∧ decode b_Model_isTo 7 = .ok (.if_icmp .lt 39, 3) ∧ decode b_Model_isTo 10 = .ok (.iload_n 0, 1) ∧ decode b_Model_isTo 11 = .ok (.bipush 32, 2) ∧ decode b_Model_isTo 13 = .ok (.if_icmp .lt 9, 3) ∧ decode b_Model_isTo 16 = .ok (.iload_n 0, 1) ∧ decode b_Model_isTo 17 = .ok (.bipush 56, 2) ∧ decode b_Model_isTo 19 = .ok (.if_icmp .lt 27, 3) ∧ decode b_Model_isTo 22 = .ok (.iload_n 0, 1) ∧ decode b_Model_isTo 23 = .ok (.bipush 64, 2) ∧ decode b_Model_isTo 25 = .ok (.if_icmp .lt 9, 3) ∧ decode b_Model_isTo 28 = .ok (.iload_n 0, 1) ∧ decode b_Model_isTo 29 = .ok (.bipush 88, 2) ∧ decode b_Model_isTo 31 = .ok (.if_icmp .lt 15, 3) ∧ decode b_Model_isTo 34 = .ok (.iload_n 0, 1) ∧ decode b_Model_isTo 35 = .ok (.bipush 96, 2) ∧ decode b_Model_isTo 37 = .ok (.if_icmp .lt 13, 3) ∧ decode b_Model_isTo 40 = .ok (.iload_n 0, 1) ∧ decode b_Model_isTo 41 = .ok (.bipush 100, 2) ∧ decode b_Model_isTo 43 = .ok (.if_icmp .ge 7, 3) ∧ decode b_Model_isTo 46 = .ok (.iconst 1, 1) ∧ decode b_Model_isTo 47 = .ok (.goto 4, 3) ∧ decode b_Model_isTo 50 = .ok (.iconst 0, 1) ∧ decode b_Model_isTo 51 = .ok (.ireturn, 1) := ⟨d_Model_isTo_0, d_Model_isTo_1, d_Model_isTo_4, d_Model_isTo_5, d_Model_isTo_7, d_Model_isTo_10, d_Model_isTo_11, d_Model_isTo_13, d_Model_isTo_16, d_Model_isTo_17, d_Model_isTo_19, d_Model_isTo_22, d_Model_isTo_23, d_Model_isTo_25, d_Model_isTo_28, d_Model_isTo_29, d_Model_isTo_31, d_Model_isTo_34, d_Model_isTo_35, d_Model_isTo_37, d_Model_isTo_40, d_Model_isTo_41, d_Model_isTo_43, d_Model_isTo_46, d_Model_isTo_47, d_Model_isTo_50, d_Model_isTo_51⟩
theorem s_Model_isTo : Cond.static y_Model_isTo ∈ nm_Ts ∧ Cond.initialized y_Model_isTo.cls ∈ nm_Ts ∧ Cond.code y_Model_isTo b_Model_isTo 1 (some .boolean) ∈ nm_Ts ∧ mz_cl1 y_Model_isTo 1 := ⟨nm_t4 176 rfl rfl, nm_t1 12 rfl rfl, nm_t4 177 rfl rfl, by decide +kernel⟩
def y_Model_strip : MethodName := ⟨"CardOfficeModel", "strip", "(I)I"⟩
abbrev b_Model_strip : ByteArray := prog_14_method_19_code
def r_Model_strip (c s : Nat) : Room := { frames := 1, cells := c, slots := s, locals := 20 }
theorem d_Model_strip_0 : decode b_Model_strip 0 = .ok (.aload_n 0, 1) := by decide +kernel
theorem d_Model_strip_1 : decode b_Model_strip 1 = .ok (.iconst 0, 1) := by decide +kernel
theorem d_Model_strip_2 : decode b_Model_strip 2 = .ok (.putfield 52, 3) := by decide +kernel
theorem d_Model_strip_5 : decode b_Model_strip 5 = .ok (.iload_n 1, 1) := by decide +kernel
theorem d_Model_strip_6 : decode b_Model_strip 6 = .ok (.invokestatic 82, 3) := by decide +kernel
theorem d_Model_strip_9 : decode b_Model_strip 9 = .ok (.ifCond .ne 5, 3) := by decide +kernel
theorem d_Model_strip_12 : decode b_Model_strip 12 = .ok (.iconst (-1), 1) := by decide +kernel
theorem d_Model_strip_13 : decode b_Model_strip 13 = .ok (.ireturn, 1) := by decide +kernel
theorem d_Model_strip_14 : decode b_Model_strip 14 = .ok (.aload_n 0, 1) := by decide +kernel
theorem d_Model_strip_15 : decode b_Model_strip 15 = .ok (.getfield 33, 3) := by decide +kernel
theorem d_Model_strip_18 : decode b_Model_strip 18 = .ok (.iload_n 1, 1) := by decide +kernel
theorem d_Model_strip_19 : decode b_Model_strip 19 = .ok (.iaload, 1) := by decide +kernel
theorem d_Model_strip_20 : decode b_Model_strip 20 = .ok (.istore_n 2, 1) := by decide +kernel
theorem d_Model_strip_21 : decode b_Model_strip 21 = .ok (.aload_n 0, 1) := by decide +kernel
theorem d_Model_strip_22 : decode b_Model_strip 22 = .ok (.getfield 33, 3) := by decide +kernel
theorem d_Model_strip_25 : decode b_Model_strip 25 = .ok (.iload_n 1, 1) := by decide +kernel
theorem d_Model_strip_26 : decode b_Model_strip 26 = .ok (.iconst 0, 1) := by decide +kernel
theorem d_Model_strip_27 : decode b_Model_strip 27 = .ok (.iastore, 1) := by decide +kernel
theorem d_Model_strip_28 : decode b_Model_strip 28 = .ok (.iconst 0, 1) := by decide +kernel
theorem d_Model_strip_29 : decode b_Model_strip 29 = .ok (.istore_n 3, 1) := by decide +kernel
theorem d_Model_strip_30 : decode b_Model_strip 30 = .ok (.iload_n 3, 1) := by decide +kernel
theorem d_Model_strip_31 : decode b_Model_strip 31 = .ok (.iconst 4, 1) := by decide +kernel
theorem d_Model_strip_32 : decode b_Model_strip 32 = .ok (.if_icmp .ge 20, 3) := by decide +kernel
theorem d_Model_strip_35 : decode b_Model_strip 35 = .ok (.aload_n 0, 1) := by decide +kernel
theorem d_Model_strip_36 : decode b_Model_strip 36 = .ok (.getfield 36, 3) := by decide +kernel
theorem d_Model_strip_39 : decode b_Model_strip 39 = .ok (.iconst 4, 1) := by decide +kernel
theorem d_Model_strip_40 : decode b_Model_strip 40 = .ok (.iload_n 1, 1) := by decide +kernel
theorem d_Model_strip_41 : decode b_Model_strip 41 = .ok (.imul, 1) := by decide +kernel
theorem d_Model_strip_42 : decode b_Model_strip 42 = .ok (.iload_n 3, 1) := by decide +kernel
theorem d_Model_strip_43 : decode b_Model_strip 43 = .ok (.iadd, 1) := by decide +kernel
theorem d_Model_strip_44 : decode b_Model_strip 44 = .ok (.iconst 3, 1) := by decide +kernel
theorem d_Model_strip_45 : decode b_Model_strip 45 = .ok (.iastore, 1) := by decide +kernel
theorem d_Model_strip_46 : decode b_Model_strip 46 = .ok (.iinc 3 1, 3) := by decide +kernel
theorem d_Model_strip_49 : decode b_Model_strip 49 = .ok (.goto (-19), 3) := by decide +kernel
theorem d_Model_strip_52 : decode b_Model_strip 52 = .ok (.iload_n 2, 1) := by decide +kernel
theorem d_Model_strip_53 : decode b_Model_strip 53 = .ok (.ireturn, 1) := by decide +kernel
theorem d_Model_strip : decode b_Model_strip 0 = .ok (.aload_n 0, 1) ∧ decode b_Model_strip 1 = .ok (.iconst 0, 1) ∧ decode b_Model_strip 2 = .ok (.putfield 52, 3) ∧ decode b_Model_strip 5 = .ok (.iload_n 1, 1) ∧ decode b_Model_strip 6 = .ok (.invokestatic 82, 3) ∧ decode b_Model_strip 9 = .ok (.ifCond .ne 5, 3) ∧ decode b_Model_strip 12 = .ok (.iconst (-1), 1) ∧ decode b_Model_strip 13 = .ok (.ireturn, 1) ∧ decode b_Model_strip 14 = .ok (.aload_n 0, 1) ∧ decode b_Model_strip 15 = .ok (.getfield 33, 3) ∧ decode b_Model_strip 18 = .ok (.iload_n 1, 1) ∧ decode b_Model_strip 19 = .ok (.iaload, 1) ∧ decode b_Model_strip 20 = .ok (.istore_n 2, 1) ∧ decode b_Model_strip 21 = .ok (.aload_n 0, 1) ∧ decode b_Model_strip 22 = .ok (.getfield 33, 3) ∧ decode b_Model_strip 25 = .ok (.iload_n 1, 1) ∧ decode b_Model_strip 26 = .ok (.iconst 0, 1) ∧ decode b_Model_strip 27 = .ok (.iastore, 1) ∧ decode b_Model_strip 28 = .ok (.iconst 0, 1) ∧ decode b_Model_strip 29 = .ok (.istore_n 3, 1) ∧ decode b_Model_strip 30 = .ok (.iload_n 3, 1) ∧ decode b_Model_strip 31 = .ok (.iconst 4, 1) ∧ decode b_Model_strip 32 = .ok (.if_icmp .ge 20, 3) ∧ decode b_Model_strip 35 = .ok (.aload_n 0, 1) ∧ decode b_Model_strip 36 = .ok (.getfield 36, 3) ∧ decode b_Model_strip 39 = .ok (.iconst 4, 1) ∧ decode b_Model_strip 40 = .ok (.iload_n 1, 1) ∧ decode b_Model_strip 41 = .ok (.imul, 1) ∧ decode b_Model_strip 42 = .ok (.iload_n 3, 1) ∧ decode b_Model_strip 43 = .ok (.iadd, 1) ∧ decode b_Model_strip 44 = .ok (.iconst 3, 1) ∧ decode b_Model_strip 45 = .ok (.iastore, 1) ∧ decode b_Model_strip 46 = .ok (.iinc 3 1, 3) ∧ decode b_Model_strip 49 = .ok (.goto (-19), 3) ∧ decode b_Model_strip 52 = .ok (.iload_n 2, 1) ∧ decode b_Model_strip 53 = .ok (.ireturn, 1) := ⟨d_Model_strip_0, d_Model_strip_1, d_Model_strip_2, d_Model_strip_5, d_Model_strip_6, d_Model_strip_9, d_Model_strip_12, d_Model_strip_13, d_Model_strip_14, d_Model_strip_15, d_Model_strip_18, d_Model_strip_19, d_Model_strip_20, d_Model_strip_21, d_Model_strip_22, d_Model_strip_25, d_Model_strip_26, d_Model_strip_27, d_Model_strip_28, d_Model_strip_29, d_Model_strip_30, d_Model_strip_31, d_Model_strip_32, d_Model_strip_35, d_Model_strip_36, d_Model_strip_39, d_Model_strip_40, d_Model_strip_41, d_Model_strip_42, d_Model_strip_43, d_Model_strip_44, d_Model_strip_45, d_Model_strip_46, d_Model_strip_49, d_Model_strip_52, d_Model_strip_53⟩
theorem v_Model_strip : Cond.instanceMethod y_Model_strip ∈ nm_Ts ∧ Cond.selects y_Model_strip.cls y_Model_strip y_Model_strip ∈ nm_Ts ∧ Cond.initialized y_Model_strip.cls ∈ nm_Ts ∧ Cond.code y_Model_strip b_Model_strip 4 (some .int) ∈ nm_Ts ∧ mz_cl1 y_Model_strip 1 := ⟨nm_t4 179 rfl rfl, nm_t4 180 rfl rfl, nm_t1 12 rfl rfl, nm_t4 181 rfl rfl, by decide +kernel⟩
def y_Model_level : MethodName := ⟨"CardOfficeModel", "level", "(III)Z"⟩
abbrev b_Model_level : ByteArray := prog_14_method_20_code
def r_Model_level (c s : Nat) : Room := { frames := 1, cells := c, slots := s, locals := 20 }
theorem d_Model_level_0 : decode b_Model_level 0 = .ok (.aload_n 0, 1) := by decide +kernel
theorem d_Model_level_1 : decode b_Model_level 1 = .ok (.iconst 0, 1) := by decide +kernel
theorem d_Model_level_2 : decode b_Model_level 2 = .ok (.putfield 52, 3) := by decide +kernel
theorem d_Model_level_5 : decode b_Model_level 5 = .ok (.iload_n 1, 1) := by decide +kernel
theorem d_Model_level_6 : decode b_Model_level 6 = .ok (.invokestatic 82, 3) := by decide +kernel
theorem d_Model_level_9 : decode b_Model_level 9 = .ok (.ifCond .eq 21, 3) := by decide +kernel
theorem d_Model_level_12 : decode b_Model_level 12 = .ok (.iload_n 2, 1) := by decide +kernel
theorem d_Model_level_13 : decode b_Model_level 13 = .ok (.ifCond .lt 17, 3) := by decide +kernel
theorem d_Model_level_16 : decode b_Model_level 16 = .ok (.iload_n 2, 1) := by decide +kernel
theorem d_Model_level_17 : decode b_Model_level 17 = .ok (.iconst 3, 1) := by decide +kernel
theorem d_Model_level_18 : decode b_Model_level 18 = .ok (.if_icmp .gt 12, 3) := by decide +kernel
theorem d_Model_level_21 : decode b_Model_level 21 = .ok (.iload_n 3, 1) := by decide +kernel
theorem d_Model_level_22 : decode b_Model_level 22 = .ok (.ifCond .lt 8, 3) := by decide +kernel
theorem d_Model_level_25 : decode b_Model_level 25 = .ok (.iload_n 3, 1) := by decide +kernel
theorem d_Model_level_26 : decode b_Model_level 26 = .ok (.iconst 3, 1) := by decide +kernel
theorem d_Model_level_27 : decode b_Model_level 27 = .ok (.if_icmp .le 5, 3) := by decide +kernel
theorem d_Model_level_30 : decode b_Model_level 30 = .ok (.iconst 0, 1) := by decide +kernel
theorem d_Model_level_31 : decode b_Model_level 31 = .ok (.ireturn, 1) := by decide +kernel
theorem d_Model_level_32 : decode b_Model_level 32 = .ok (.aload_n 0, 1) := by decide +kernel
theorem d_Model_level_33 : decode b_Model_level 33 = .ok (.getfield 36, 3) := by decide +kernel
theorem d_Model_level_36 : decode b_Model_level 36 = .ok (.iconst 4, 1) := by decide +kernel
theorem d_Model_level_37 : decode b_Model_level 37 = .ok (.iload_n 1, 1) := by decide +kernel
theorem d_Model_level_38 : decode b_Model_level 38 = .ok (.imul, 1) := by decide +kernel
theorem d_Model_level_39 : decode b_Model_level 39 = .ok (.iload_n 2, 1) := by decide +kernel
theorem d_Model_level_40 : decode b_Model_level 40 = .ok (.iadd, 1) := by decide +kernel
theorem d_Model_level_41 : decode b_Model_level 41 = .ok (.iload_n 3, 1) := by decide +kernel
theorem d_Model_level_42 : decode b_Model_level 42 = .ok (.iastore, 1) := by decide +kernel
theorem d_Model_level_43 : decode b_Model_level 43 = .ok (.iconst 1, 1) := by decide +kernel
theorem d_Model_level_44 : decode b_Model_level 44 = .ok (.ireturn, 1) := by decide +kernel
theorem d_Model_level : decode b_Model_level 0 = .ok (.aload_n 0, 1) ∧ decode b_Model_level 1 = .ok (.iconst 0, 1) ∧ decode b_Model_level 2 = .ok (.putfield 52, 3) ∧ decode b_Model_level 5 = .ok (.iload_n 1, 1) ∧ decode b_Model_level 6 = .ok (.invokestatic 82, 3) ∧ decode b_Model_level 9 = .ok (.ifCond .eq 21, 3) ∧ decode b_Model_level 12 = .ok (.iload_n 2, 1) ∧ decode b_Model_level 13 = .ok (.ifCond .lt 17, 3) ∧ decode b_Model_level 16 = .ok (.iload_n 2, 1) ∧ decode b_Model_level 17 = .ok (.iconst 3, 1) ∧ decode b_Model_level 18 = .ok (.if_icmp .gt 12, 3) ∧ decode b_Model_level 21 = .ok (.iload_n 3, 1) ∧ decode b_Model_level 22 = .ok (.ifCond .lt 8, 3) ∧ decode b_Model_level 25 = .ok (.iload_n 3, 1) ∧ decode b_Model_level 26 = .ok (.iconst 3, 1) ∧ decode b_Model_level 27 = .ok (.if_icmp .le 5, 3) ∧ decode b_Model_level 30 = .ok (.iconst 0, 1) ∧ decode b_Model_level 31 = .ok (.ireturn, 1) ∧ decode b_Model_level 32 = .ok (.aload_n 0, 1) ∧ decode b_Model_level 33 = .ok (.getfield 36, 3) ∧ decode b_Model_level 36 = .ok (.iconst 4, 1) ∧ decode b_Model_level 37 = .ok (.iload_n 1, 1) ∧ decode b_Model_level 38 = .ok (.imul, 1) ∧ decode b_Model_level 39 = .ok (.iload_n 2, 1) ∧ decode b_Model_level 40 = .ok (.iadd, 1) ∧ decode b_Model_level 41 = .ok (.iload_n 3, 1) ∧ decode b_Model_level 42 = .ok (.iastore, 1) ∧ decode b_Model_level 43 = .ok (.iconst 1, 1) ∧ decode b_Model_level 44 = .ok (.ireturn, 1) := ⟨d_Model_level_0, d_Model_level_1, d_Model_level_2, d_Model_level_5, d_Model_level_6, d_Model_level_9, d_Model_level_12, d_Model_level_13, d_Model_level_16, d_Model_level_17, d_Model_level_18, d_Model_level_21, d_Model_level_22, d_Model_level_25, d_Model_level_26, d_Model_level_27, d_Model_level_30, d_Model_level_31, d_Model_level_32, d_Model_level_33, d_Model_level_36, d_Model_level_37, d_Model_level_38, d_Model_level_39, d_Model_level_40, d_Model_level_41, d_Model_level_42, d_Model_level_43, d_Model_level_44⟩
theorem v_Model_level : Cond.instanceMethod y_Model_level ∈ nm_Ts ∧ Cond.selects y_Model_level.cls y_Model_level y_Model_level ∈ nm_Ts ∧ Cond.initialized y_Model_level.cls ∈ nm_Ts ∧ Cond.code y_Model_level b_Model_level 4 (some .boolean) ∈ nm_Ts ∧ mz_cl1 y_Model_level 3 := ⟨nm_t4 183 rfl rfl, nm_t4 184 rfl rfl, nm_t1 12 rfl rfl, nm_t4 185 rfl rfl, by decide +kernel⟩
def y_Model_pass : MethodName := ⟨"CardOfficeModel", "pass", "(IIZ)I"⟩
abbrev b_Model_pass : ByteArray := prog_14_method_25_code
def r_Model_pass (c s : Nat) : Room := { frames := 3, cells := c, slots := s, locals := 73 }
theorem d_Model_pass_0 : decode b_Model_pass 0 = .ok (.aload_n 0, 1) := by decide +kernel
theorem d_Model_pass_1 : decode b_Model_pass 1 = .ok (.iload_n 1, 1) := by decide +kernel
theorem d_Model_pass_2 : decode b_Model_pass 2 = .ok (.invokestatic 65, 3) := by decide +kernel
theorem d_Model_pass_5 : decode b_Model_pass 5 = .ok (.ifCond .eq 14, 3) := by decide +kernel
theorem d_Model_pass_8 : decode b_Model_pass 8 = .ok (.iload_n 2, 1) := by decide +kernel
theorem d_Model_pass_9 : decode b_Model_pass 9 = .ok (.invokestatic 108, 3) := by decide +kernel
theorem d_Model_pass_12 : decode b_Model_pass 12 = .ok (.ifCond .eq 7, 3) := by decide +kernel
theorem d_Model_pass_15 : decode b_Model_pass 15 = .ok (.iconst 0, 1) := by decide +kernel
theorem d_Model_pass_16 : decode b_Model_pass 16 = .ok (.goto 4, 3) := by decide +kernel
theorem d_Model_pass_19 : decode b_Model_pass 19 = .ok (.iconst 1, 1) := by decide +kernel
theorem d_Model_pass_20 : decode b_Model_pass 20 = .ok (.putfield 52, 3) := by decide +kernel
theorem d_Model_pass_23 : decode b_Model_pass 23 = .ok (.aload_n 0, 1) := by decide +kernel
theorem d_Model_pass_24 : decode b_Model_pass 24 = .ok (.getfield 52, 3) := by decide +kernel
theorem d_Model_pass_27 : decode b_Model_pass 27 = .ok (.ifCond .le 7, 3) := by decide +kernel
theorem d_Model_pass_30 : decode b_Model_pass 30 = .ok (.iconst 0, 1) := by decide +kernel
theorem d_Model_pass_31 : decode b_Model_pass 31 = .ok (.goto 10, 3) := by decide +kernel
theorem d_Model_pass_34 : decode b_Model_pass 34 = .ok (.aload_n 0, 1) := by decide +kernel
theorem d_Model_pass_35 : decode b_Model_pass 35 = .ok (.iload_n 1, 1) := by decide +kernel
theorem d_Model_pass_36 : decode b_Model_pass 36 = .ok (.iload_n 2, 1) := by decide +kernel
theorem d_Model_pass_37 : decode b_Model_pass 37 = .ok (.iload_n 3, 1) := by decide +kernel
theorem d_Model_pass_38 : decode b_Model_pass 38 = .ok (.invokevirtual 111, 3) := by decide +kernel
theorem d_Model_pass_41 : decode b_Model_pass 41 = .ok (.ireturn, 1) := by decide +kernel
theorem d_Model_pass : decode b_Model_pass 0 = .ok (.aload_n 0, 1) ∧ decode b_Model_pass 1 = .ok (.iload_n 1, 1) ∧ decode b_Model_pass 2 = .ok (.invokestatic 65, 3) ∧ decode b_Model_pass 5 = .ok (.ifCond .eq 14, 3) ∧ decode b_Model_pass 8 = .ok (.iload_n 2, 1) ∧ decode b_Model_pass 9 = .ok (.invokestatic 108, 3) ∧ decode b_Model_pass 12 = .ok (.ifCond .eq 7, 3) ∧ decode b_Model_pass 15 = .ok (.iconst 0, 1) ∧ decode b_Model_pass 16 = .ok (.goto 4, 3) ∧ decode b_Model_pass 19 = .ok (.iconst 1, 1) ∧ decode b_Model_pass 20 = .ok (.putfield 52, 3) ∧ decode b_Model_pass 23 = .ok (.aload_n 0, 1) ∧ decode b_Model_pass 24 = .ok (.getfield 52, 3) ∧ decode b_Model_pass 27 = .ok (.ifCond .le 7, 3) ∧ decode b_Model_pass 30 = .ok (.iconst 0, 1) ∧ decode b_Model_pass 31 = .ok (.goto 10, 3) ∧ decode b_Model_pass 34 = .ok (.aload_n 0, 1) ∧ decode b_Model_pass 35 = .ok (.iload_n 1, 1) ∧ decode b_Model_pass 36 = .ok (.iload_n 2, 1) ∧ decode b_Model_pass 37 = .ok (.iload_n 3, 1) ∧ decode b_Model_pass 38 = .ok (.invokevirtual 111, 3) ∧ decode b_Model_pass 41 = .ok (.ireturn, 1) := ⟨d_Model_pass_0, d_Model_pass_1, d_Model_pass_2, d_Model_pass_5, d_Model_pass_8, d_Model_pass_9, d_Model_pass_12, d_Model_pass_15, d_Model_pass_16, d_Model_pass_19, d_Model_pass_20, d_Model_pass_23, d_Model_pass_24, d_Model_pass_27, d_Model_pass_30, d_Model_pass_31, d_Model_pass_34, d_Model_pass_35, d_Model_pass_36, d_Model_pass_37, d_Model_pass_38, d_Model_pass_41⟩
theorem v_Model_pass : Cond.instanceMethod y_Model_pass ∈ nm_Ts ∧ Cond.selects y_Model_pass.cls y_Model_pass y_Model_pass ∈ nm_Ts ∧ Cond.initialized y_Model_pass.cls ∈ nm_Ts ∧ Cond.code y_Model_pass b_Model_pass 4 (some .int) ∈ nm_Ts ∧ mz_cl1 y_Model_pass 3 := ⟨nm_t4 187 rfl rfl, nm_t4 188 rfl rfl, nm_t1 12 rfl rfl, nm_t4 189 rfl rfl, by decide +kernel⟩
def y_Model_isColumn : MethodName := ⟨"CardOfficeModel", "isColumn", "(I)Z"⟩
abbrev b_Model_isColumn : ByteArray := prog_14_method_10_code
def r_Model_isColumn (c s : Nat) : Room := { frames := 0, cells := c, slots := s, locals := 0 }
theorem d_Model_isColumn_0 : decode b_Model_isColumn 0 = .ok (.iload_n 0, 1) := by decide +kernel
theorem d_Model_isColumn_1 : decode b_Model_isColumn 1 = .ok (.ifCond .lt 13, 3) := by decide +kernel
theorem d_Model_isColumn_4 : decode b_Model_isColumn 4 = .ok (.iload_n 0, 1) := by decide +kernel
theorem d_Model_isColumn_5 : decode b_Model_isColumn 5 = .ok (.bipush 16, 2) := by decide +kernel
theorem d_Model_isColumn_7 : decode b_Model_isColumn 7 = .ok (.if_icmp .ge 7, 3) := by decide +kernel
theorem d_Model_isColumn_10 : decode b_Model_isColumn 10 = .ok (.iconst 1, 1) := by decide +kernel
theorem d_Model_isColumn_11 : decode b_Model_isColumn 11 = .ok (.goto 4, 3) := by decide +kernel
theorem d_Model_isColumn_14 : decode b_Model_isColumn 14 = .ok (.iconst 0, 1) := by decide +kernel
theorem d_Model_isColumn_15 : decode b_Model_isColumn 15 = .ok (.ireturn, 1) := by decide +kernel
theorem d_Model_isColumn : decode b_Model_isColumn 0 = .ok (.iload_n 0, 1) ∧ decode b_Model_isColumn 1 = .ok (.ifCond .lt 13, 3) ∧ decode b_Model_isColumn 4 = .ok (.iload_n 0, 1) ∧ decode b_Model_isColumn 5 = .ok (.bipush 16, 2) ∧ decode b_Model_isColumn 7 = .ok (.if_icmp .ge 7, 3) ∧ decode b_Model_isColumn 10 = .ok (.iconst 1, 1) ∧ decode b_Model_isColumn 11 = .ok (.goto 4, 3) ∧ decode b_Model_isColumn 14 = .ok (.iconst 0, 1) ∧ decode b_Model_isColumn 15 = .ok (.ireturn, 1) := ⟨d_Model_isColumn_0, d_Model_isColumn_1, d_Model_isColumn_4, d_Model_isColumn_5, d_Model_isColumn_7, d_Model_isColumn_10, d_Model_isColumn_11, d_Model_isColumn_14, d_Model_isColumn_15⟩
theorem s_Model_isColumn : Cond.static y_Model_isColumn ∈ nm_Ts ∧ Cond.initialized y_Model_isColumn.cls ∈ nm_Ts ∧ Cond.code y_Model_isColumn b_Model_isColumn 1 (some .boolean) ∈ nm_Ts ∧ mz_cl1 y_Model_isColumn 1 := ⟨nm_t4 191 rfl rfl, nm_t1 12 rfl rfl, nm_t4 192 rfl rfl, by decide +kernel⟩
def y_Model_sift : MethodName := ⟨"CardOfficeModel", "sift", "(IIZ)I"⟩
abbrev b_Model_sift : ByteArray := prog_14_method_24_code
def r_Model_sift (c s : Nat) : Room := { frames := 2, cells := c, slots := s, locals := 45 }
theorem d_Model_sift_0 : decode b_Model_sift 0 = .ok (.iconst 0, 1) := by decide +kernel
theorem d_Model_sift_1 : decode b_Model_sift 1 = .ok (.istore 4, 2) := by decide +kernel
theorem d_Model_sift_3 : decode b_Model_sift 3 = .ok (.iconst 0, 1) := by decide +kernel
theorem d_Model_sift_4 : decode b_Model_sift 4 = .ok (.istore 5, 2) := by decide +kernel
theorem d_Model_sift_6 : decode b_Model_sift 6 = .ok (.iconst 0, 1) := by decide +kernel
theorem d_Model_sift_7 : decode b_Model_sift 7 = .ok (.istore 6, 2) := by decide +kernel
theorem d_Model_sift_9 : decode b_Model_sift 9 = .ok (.iload 6, 2) := by decide +kernel
theorem d_Model_sift_11 : decode b_Model_sift 11 = .ok (.bipush 11, 2) := by decide +kernel
theorem d_Model_sift_13 : decode b_Model_sift 13 = .ok (.if_icmp .ge 86, 3) := by decide +kernel
theorem d_Model_sift_16 : decode b_Model_sift 16 = .ok (.iload 4, 2) := by decide +kernel
theorem d_Model_sift_18 : decode b_Model_sift 18 = .ok (.istore 7, 2) := by decide +kernel
theorem d_Model_sift_20 : decode b_Model_sift 20 = .ok (.iconst 0, 1) := by decide +kernel
theorem d_Model_sift_21 : decode b_Model_sift 21 = .ok (.istore 8, 2) := by decide +kernel
theorem d_Model_sift_23 : decode b_Model_sift 23 = .ok (.iload 8, 2) := by decide +kernel
theorem d_Model_sift_25 : decode b_Model_sift 25 = .ok (.aload_n 0, 1) := by decide +kernel
theorem d_Model_sift_26 : decode b_Model_sift 26 = .ok (.getfield 17, 3) := by decide +kernel
theorem d_Model_sift_29 : decode b_Model_sift 29 = .ok (.iload_n 1, 1) := by decide +kernel
theorem d_Model_sift_30 : decode b_Model_sift 30 = .ok (.iaload, 1) := by decide +kernel
theorem d_Model_sift_31 : decode b_Model_sift 31 = .ok (.if_icmp .ge 45, 3) := by decide +kernel
theorem d_Model_sift_34 : decode b_Model_sift 34 = .ok (.aload_n 0, 1) := by decide +kernel
theorem d_Model_sift_35 : decode b_Model_sift 35 = .ok (.aload_n 0, 1) := by decide +kernel
theorem d_Model_sift_36 : decode b_Model_sift 36 = .ok (.iload_n 1, 1) := by decide +kernel
theorem d_Model_sift_37 : decode b_Model_sift 37 = .ok (.iload 8, 2) := by decide +kernel
theorem d_Model_sift_39 : decode b_Model_sift 39 = .ok (.invokevirtual 98, 3) := by decide +kernel
theorem d_Model_sift_42 : decode b_Model_sift 42 = .ok (.iload_n 2, 1) := by decide +kernel
theorem d_Model_sift_43 : decode b_Model_sift 43 = .ok (.iload_n 3, 1) := by decide +kernel
theorem d_Model_sift_44 : decode b_Model_sift 44 = .ok (.invokevirtual 101, 3) := by decide +kernel
theorem d_Model_sift_47 : decode b_Model_sift 47 = .ok (.iload 6, 2) := by decide +kernel
theorem d_Model_sift_49 : decode b_Model_sift 49 = .ok (.if_icmp .ne 21, 3) := by decide +kernel
theorem d_Model_sift_52 : decode b_Model_sift 52 = .ok (.aload_n 0, 1) := by decide +kernel
theorem d_Model_sift_53 : decode b_Model_sift 53 = .ok (.getfield 21, 3) := by decide +kernel
theorem d_Model_sift_56 : decode b_Model_sift 56 = .ok (.iload 4, 2) := by decide +kernel
theorem d_Model_sift_58 : decode b_Model_sift 58 = .ok (.aload_n 0, 1) := by decide +kernel
theorem d_Model_sift_59 : decode b_Model_sift 59 = .ok (.iload_n 1, 1) := by decide +kernel
theorem d_Model_sift_60 : decode b_Model_sift 60 = .ok (.iload 8, 2) := by decide +kernel
theorem d_Model_sift_62 : decode b_Model_sift 62 = .ok (.invokevirtual 98, 3) := by decide +kernel
theorem d_Model_sift_65 : decode b_Model_sift 65 = .ok (.i2s, 1) := by decide +kernel
theorem d_Model_sift_66 : decode b_Model_sift 66 = .ok (.sastore, 1) := by decide +kernel
theorem d_Model_sift_67 : decode b_Model_sift 67 = .ok (.iinc 4 1, 3) := by decide +kernel
theorem d_Model_sift_70 : decode b_Model_sift 70 = .ok (.iinc 8 1, 3) := by decide +kernel
theorem d_Model_sift_73 : decode b_Model_sift 73 = .ok (.goto (-50), 3) := by decide +kernel
theorem d_Model_sift_76 : decode b_Model_sift 76 = .ok (.iload 5, 2) := by decide +kernel
theorem d_Model_sift_78 : decode b_Model_sift 78 = .ok (.iload 4, 2) := by decide +kernel
theorem d_Model_sift_80 : decode b_Model_sift 80 = .ok (.iload 7, 2) := by decide +kernel
theorem d_Model_sift_82 : decode b_Model_sift 82 = .ok (.if_icmp .le 7, 3) := by decide +kernel
theorem d_Model_sift_85 : decode b_Model_sift 85 = .ok (.iconst 1, 1) := by decide +kernel
theorem d_Model_sift_86 : decode b_Model_sift 86 = .ok (.goto 4, 3) := by decide +kernel
theorem d_Model_sift_89 : decode b_Model_sift 89 = .ok (.iconst 0, 1) := by decide +kernel
theorem d_Model_sift_90 : decode b_Model_sift 90 = .ok (.iadd, 1) := by decide +kernel
theorem d_Model_sift_91 : decode b_Model_sift 91 = .ok (.istore 5, 2) := by decide +kernel
theorem d_Model_sift_93 : decode b_Model_sift 93 = .ok (.iinc 6 1, 3) := by decide +kernel
theorem d_Model_sift_96 : decode b_Model_sift 96 = .ok (.goto (-87), 3) := by decide +kernel
theorem d_Model_sift_99 : decode b_Model_sift 99 = .ok (.iconst 0, 1) := by decide +kernel
theorem d_Model_sift_100 : decode b_Model_sift 100 = .ok (.istore 6, 2) := by decide +kernel
theorem d_Model_sift_102 : decode b_Model_sift 102 = .ok (.iload 6, 2) := by decide +kernel
theorem d_Model_sift_104 : decode b_Model_sift 104 = .ok (.iload 4, 2) := by decide +kernel
theorem d_Model_sift_106 : decode b_Model_sift 106 = .ok (.if_icmp .ge 29, 3) := by decide +kernel
theorem d_Model_sift_109 : decode b_Model_sift 109 = .ok (.aload_n 0, 1) := by decide +kernel
theorem d_Model_sift_110 : decode b_Model_sift 110 = .ok (.getfield 13, 3) := by decide +kernel
theorem d_Model_sift_113 : decode b_Model_sift 113 = .ok (.sipush 200, 3) := by decide +kernel
theorem d_Model_sift_116 : decode b_Model_sift 116 = .ok (.iload_n 1, 1) := by decide +kernel
theorem d_Model_sift_117 : decode b_Model_sift 117 = .ok (.imul, 1) := by decide +kernel
theorem d_Model_sift_118 : decode b_Model_sift 118 = .ok (.iload 6, 2) := by decide +kernel
theorem d_Model_sift_120 : decode b_Model_sift 120 = .ok (.iadd, 1) := by decide +kernel
theorem d_Model_sift_121 : decode b_Model_sift 121 = .ok (.aload_n 0, 1) := by decide +kernel
theorem d_Model_sift_122 : decode b_Model_sift 122 = .ok (.getfield 21, 3) := by decide +kernel
theorem d_Model_sift_125 : decode b_Model_sift 125 = .ok (.iload 6, 2) := by decide +kernel
theorem d_Model_sift_127 : decode b_Model_sift 127 = .ok (.saload, 1) := by decide +kernel
theorem d_Model_sift_128 : decode b_Model_sift 128 = .ok (.sastore, 1) := by decide +kernel
theorem d_Model_sift_129 : decode b_Model_sift 129 = .ok (.iinc 6 1, 3) := by decide +kernel
theorem d_Model_sift_132 : decode b_Model_sift 132 = .ok (.goto (-30), 3) := by decide +kernel
theorem d_Model_sift_135 : decode b_Model_sift 135 = .ok (.aload_n 0, 1) := by decide +kernel
theorem d_Model_sift_136 : decode b_Model_sift 136 = .ok (.dup, 1) := by decide +kernel
theorem d_Model_sift_137 : decode b_Model_sift 137 = .ok (.getfield 105, 3) := by decide +kernel
theorem d_Model_sift_140 : decode b_Model_sift 140 = .ok (.iconst 1, 1) := by decide +kernel
theorem d_Model_sift_141 : decode b_Model_sift 141 = .ok (.iadd, 1) := by decide +kernel
theorem d_Model_sift_142 : decode b_Model_sift 142 = .ok (.putfield 105, 3) := by decide +kernel
theorem d_Model_sift_145 : decode b_Model_sift 145 = .ok (.iload 5, 2) := by decide +kernel
theorem d_Model_sift_147 : decode b_Model_sift 147 = .ok (.ireturn, 1) := by decide +kernel
theorem d_Model_sift : decode b_Model_sift 0 = .ok (.iconst 0, 1) ∧ decode b_Model_sift 1 = .ok (.istore 4, 2) ∧ decode b_Model_sift 3 = .ok (.iconst 0, 1) ∧ decode b_Model_sift 4 = .ok (.istore 5, 2) ∧ decode b_Model_sift 6 = .ok (.iconst 0, 1) ∧ decode b_Model_sift 7 = .ok (.istore 6, 2) ∧ decode b_Model_sift 9 = .ok (.iload 6, 2) ∧ decode b_Model_sift 11 = .ok (.bipush 11, 2) ∧ decode b_Model_sift 13 = .ok (.if_icmp .ge 86, 3) ∧ decode b_Model_sift 16 = .ok (.iload 4, 2) ∧ decode b_Model_sift 18 = .ok (.istore 7, 2) ∧ decode b_Model_sift 20 = .ok (.iconst 0, 1) ∧ decode b_Model_sift 21 = .ok (.istore 8, 2) ∧ decode b_Model_sift 23 = .ok (.iload 8, 2) ∧ decode b_Model_sift 25 = .ok (.aload_n 0, 1) ∧ decode b_Model_sift 26 = .ok (.getfield 17, 3) ∧ decode b_Model_sift 29 = .ok (.iload_n 1, 1) ∧ decode b_Model_sift 30 = .ok (.iaload, 1) ∧ decode b_Model_sift 31 = .ok (.if_icmp .ge 45, 3) ∧ decode b_Model_sift 34 = .ok (.aload_n 0, 1) ∧ decode b_Model_sift 35 = .ok (.aload_n 0, 1) ∧ decode b_Model_sift 36 = .ok (.iload_n 1, 1) ∧ decode b_Model_sift 37 = .ok (.iload 8, 2) ∧ decode b_Model_sift 39 = .ok (.invokevirtual 98, 3) ∧ decode b_Model_sift 42 = .ok (.iload_n 2, 1) ∧ decode b_Model_sift 43 = .ok (.iload_n 3, 1) ∧ decode b_Model_sift 44 = .ok (.invokevirtual 101, 3) ∧ decode b_Model_sift 47 = .ok (.iload 6, 2) ∧ decode b_Model_sift 49 = .ok (.if_icmp .ne 21, 3) ∧ decode b_Model_sift 52 = .ok (.aload_n 0, 1) ∧ decode b_Model_sift 53 = .ok (.getfield 21, 3) ∧ decode b_Model_sift 56 = .ok (.iload 4, 2) ∧ decode b_Model_sift 58 = .ok (.aload_n 0, 1) ∧ decode b_Model_sift 59 = .ok (.iload_n 1, 1) ∧ decode b_Model_sift 60 = .ok (.iload 8, 2) ∧ decode b_Model_sift 62 = .ok (.invokevirtual 98, 3) ∧ decode b_Model_sift 65 = .ok (.i2s, 1) ∧ decode b_Model_sift 66 = .ok (.sastore, 1) ∧ decode b_Model_sift 67 = .ok (.iinc 4 1, 3) ∧ decode b_Model_sift 70 = .ok (.iinc 8 1, 3) ∧ decode b_Model_sift 73 = .ok (.goto (-50), 3) ∧ decode b_Model_sift 76 = .ok (.iload 5, 2) ∧ decode b_Model_sift 78 = .ok (.iload 4, 2) ∧ decode b_Model_sift 80 = .ok (.iload 7, 2) ∧ decode b_Model_sift 82 = .ok (.if_icmp .le 7, 3) ∧ decode b_Model_sift 85 = .ok (.iconst 1, 1) ∧ decode b_Model_sift 86 = .ok (.goto 4, 3) ∧ decode b_Model_sift 89 = .ok (.iconst 0, 1) ∧ decode b_Model_sift 90 = .ok (.iadd, 1) ∧ decode b_Model_sift 91 = .ok (.istore 5, 2) ∧ decode b_Model_sift 93 = .ok (.iinc 6 1, 3) ∧ decode b_Model_sift 96 = .ok (.goto (-87), 3) ∧ decode b_Model_sift 99 = .ok (.iconst 0, 1) ∧ decode b_Model_sift 100 = .ok (.istore 6, 2) ∧ decode b_Model_sift 102 = .ok (.iload 6, 2) ∧ decode b_Model_sift 104 = .ok (.iload 4, 2) ∧ decode b_Model_sift 106 = .ok (.if_icmp .ge 29, 3) ∧ decode b_Model_sift 109 = .ok (.aload_n 0, 1) ∧ decode b_Model_sift 110 = .ok (.getfield 13, 3) ∧ decode b_Model_sift 113 = .ok (.sipush 200, 3) ∧ decode b_Model_sift 116 = .ok (.iload_n 1, 1) ∧ decode b_Model_sift 117 = .ok (.imul, 1) ∧ decode b_Model_sift 118 = .ok (.iload 6, 2) ∧ decode b_Model_sift 120 = .ok (.iadd, 1) ∧ decode b_Model_sift 121 = .ok (.aload_n 0, 1) ∧ decode b_Model_sift 122 = .ok (.getfield 21, 3) ∧ decode b_Model_sift 125 = .ok (.iload 6, 2) ∧ decode b_Model_sift 127 = .ok (.saload, 1) ∧ decode b_Model_sift 128 = .ok (.sastore, 1) ∧ decode b_Model_sift 129 = .ok (.iinc 6 1, 3) ∧ decode b_Model_sift 132 = .ok (.goto (-30), 3) ∧ decode b_Model_sift 135 = .ok (.aload_n 0, 1) ∧ decode b_Model_sift 136 = .ok (.dup, 1) ∧ decode b_Model_sift 137 = .ok (.getfield 105, 3) ∧ decode b_Model_sift 140 = .ok (.iconst 1, 1) ∧ decode b_Model_sift 141 = .ok (.iadd, 1) ∧ decode b_Model_sift 142 = .ok (.putfield 105, 3) ∧ decode b_Model_sift 145 = .ok (.iload 5, 2) ∧ decode b_Model_sift 147 = .ok (.ireturn, 1) := ⟨d_Model_sift_0, d_Model_sift_1, d_Model_sift_3, d_Model_sift_4, d_Model_sift_6, d_Model_sift_7, d_Model_sift_9, d_Model_sift_11, d_Model_sift_13, d_Model_sift_16, d_Model_sift_18, d_Model_sift_20, d_Model_sift_21, d_Model_sift_23, d_Model_sift_25, d_Model_sift_26, d_Model_sift_29, d_Model_sift_30, d_Model_sift_31, d_Model_sift_34, d_Model_sift_35, d_Model_sift_36, d_Model_sift_37, d_Model_sift_39, d_Model_sift_42, d_Model_sift_43, d_Model_sift_44, d_Model_sift_47, d_Model_sift_49, d_Model_sift_52, d_Model_sift_53, d_Model_sift_56, d_Model_sift_58, d_Model_sift_59, d_Model_sift_60, d_Model_sift_62, d_Model_sift_65, d_Model_sift_66, d_Model_sift_67, d_Model_sift_70, d_Model_sift_73, d_Model_sift_76, d_Model_sift_78, d_Model_sift_80, d_Model_sift_82, d_Model_sift_85, d_Model_sift_86, d_Model_sift_89, d_Model_sift_90, d_Model_sift_91, d_Model_sift_93, d_Model_sift_96, d_Model_sift_99, d_Model_sift_100, d_Model_sift_102, d_Model_sift_104, d_Model_sift_106, d_Model_sift_109, d_Model_sift_110, d_Model_sift_113, d_Model_sift_116, d_Model_sift_117, d_Model_sift_118, d_Model_sift_120, d_Model_sift_121, d_Model_sift_122, d_Model_sift_125, d_Model_sift_127, d_Model_sift_128, d_Model_sift_129, d_Model_sift_132, d_Model_sift_135, d_Model_sift_136, d_Model_sift_137, d_Model_sift_140, d_Model_sift_141, d_Model_sift_142, d_Model_sift_145, d_Model_sift_147⟩
theorem v_Model_sift : Cond.instanceMethod y_Model_sift ∈ nm_Ts ∧ Cond.selects y_Model_sift.cls y_Model_sift y_Model_sift ∈ nm_Ts ∧ Cond.initialized y_Model_sift.cls ∈ nm_Ts ∧ Cond.code y_Model_sift b_Model_sift 9 (some .int) ∈ nm_Ts ∧ mz_cl1 y_Model_sift 3 := ⟨nm_t4 195 rfl rfl, nm_s 21 rfl rfl, nm_t1 12 rfl rfl, nm_t4 196 rfl rfl, by decide +kernel⟩
def y_Model_cardAt : MethodName := ⟨"CardOfficeModel", "cardAt", "(II)I"⟩
abbrev b_Model_cardAt : ByteArray := prog_14_method_8_code
def r_Model_cardAt (c s : Nat) : Room := { frames := 0, cells := c, slots := s, locals := 0 }
theorem d_Model_cardAt_0 : decode b_Model_cardAt 0 = .ok (.aload_n 0, 1) := by decide +kernel
theorem d_Model_cardAt_1 : decode b_Model_cardAt 1 = .ok (.getfield 13, 3) := by decide +kernel
theorem d_Model_cardAt_4 : decode b_Model_cardAt 4 = .ok (.sipush 200, 3) := by decide +kernel
theorem d_Model_cardAt_7 : decode b_Model_cardAt 7 = .ok (.iload_n 1, 1) := by decide +kernel
theorem d_Model_cardAt_8 : decode b_Model_cardAt 8 = .ok (.imul, 1) := by decide +kernel
theorem d_Model_cardAt_9 : decode b_Model_cardAt 9 = .ok (.iload_n 2, 1) := by decide +kernel
theorem d_Model_cardAt_10 : decode b_Model_cardAt 10 = .ok (.iadd, 1) := by decide +kernel
theorem d_Model_cardAt_11 : decode b_Model_cardAt 11 = .ok (.saload, 1) := by decide +kernel
theorem d_Model_cardAt_12 : decode b_Model_cardAt 12 = .ok (.ireturn, 1) := by decide +kernel
theorem d_Model_cardAt : decode b_Model_cardAt 0 = .ok (.aload_n 0, 1) ∧ decode b_Model_cardAt 1 = .ok (.getfield 13, 3) ∧ decode b_Model_cardAt 4 = .ok (.sipush 200, 3) ∧ decode b_Model_cardAt 7 = .ok (.iload_n 1, 1) ∧ decode b_Model_cardAt 8 = .ok (.imul, 1) ∧ decode b_Model_cardAt 9 = .ok (.iload_n 2, 1) ∧ decode b_Model_cardAt 10 = .ok (.iadd, 1) ∧ decode b_Model_cardAt 11 = .ok (.saload, 1) ∧ decode b_Model_cardAt 12 = .ok (.ireturn, 1) := ⟨d_Model_cardAt_0, d_Model_cardAt_1, d_Model_cardAt_4, d_Model_cardAt_7, d_Model_cardAt_8, d_Model_cardAt_9, d_Model_cardAt_10, d_Model_cardAt_11, d_Model_cardAt_12⟩
theorem v_Model_cardAt : Cond.instanceMethod y_Model_cardAt ∈ nm_Ts ∧ Cond.selects y_Model_cardAt.cls y_Model_cardAt y_Model_cardAt ∈ nm_Ts ∧ Cond.initialized y_Model_cardAt.cls ∈ nm_Ts ∧ Cond.code y_Model_cardAt b_Model_cardAt 3 (some .int) ∈ nm_Ts ∧ mz_cl1 y_Model_cardAt 2 := ⟨nm_t4 199 rfl rfl, nm_s 22 rfl rfl, nm_t1 12 rfl rfl, nm_t4 200 rfl rfl, by decide +kernel⟩
def y_Model_keyOf : MethodName := ⟨"CardOfficeModel", "keyOf", "(IIZ)I"⟩
abbrev b_Model_keyOf : ByteArray := prog_14_method_23_code
def r_Model_keyOf (c s : Nat) : Room := { frames := 1, cells := c, slots := s, locals := 22 }
theorem d_Model_keyOf_0 : decode b_Model_keyOf 0 = .ok (.iload_n 3, 1) := by decide +kernel
theorem d_Model_keyOf_1 : decode b_Model_keyOf 1 = .ok (.ifCond .eq 15, 3) := by decide +kernel
theorem d_Model_keyOf_4 : decode b_Model_keyOf 4 = .ok (.aload_n 0, 1) := by decide +kernel
theorem d_Model_keyOf_5 : decode b_Model_keyOf 5 = .ok (.iload_n 1, 1) := by decide +kernel
theorem d_Model_keyOf_6 : decode b_Model_keyOf 6 = .ok (.iload_n 2, 1) := by decide +kernel
theorem d_Model_keyOf_7 : decode b_Model_keyOf 7 = .ok (.invokevirtual 91, 3) := by decide +kernel
theorem d_Model_keyOf_10 : decode b_Model_keyOf 10 = .ok (.invokestatic 55, 3) := by decide +kernel
theorem d_Model_keyOf_13 : decode b_Model_keyOf 13 = .ok (.goto 14, 3) := by decide +kernel
theorem d_Model_keyOf_16 : decode b_Model_keyOf 16 = .ok (.aload_n 0, 1) := by decide +kernel
theorem d_Model_keyOf_17 : decode b_Model_keyOf 17 = .ok (.iload_n 1, 1) := by decide +kernel
theorem d_Model_keyOf_18 : decode b_Model_keyOf 18 = .ok (.iload_n 2, 1) := by decide +kernel
theorem d_Model_keyOf_19 : decode b_Model_keyOf 19 = .ok (.invokevirtual 91, 3) := by decide +kernel
theorem d_Model_keyOf_22 : decode b_Model_keyOf 22 = .ok (.invokestatic 59, 3) := by decide +kernel
theorem d_Model_keyOf_25 : decode b_Model_keyOf 25 = .ok (.iconst 1, 1) := by decide +kernel
theorem d_Model_keyOf_26 : decode b_Model_keyOf 26 = .ok (.iadd, 1) := by decide +kernel
theorem d_Model_keyOf_27 : decode b_Model_keyOf 27 = .ok (.ireturn, 1) := by decide +kernel
theorem d_Model_keyOf : decode b_Model_keyOf 0 = .ok (.iload_n 3, 1) ∧ decode b_Model_keyOf 1 = .ok (.ifCond .eq 15, 3) ∧ decode b_Model_keyOf 4 = .ok (.aload_n 0, 1) ∧ decode b_Model_keyOf 5 = .ok (.iload_n 1, 1) ∧ decode b_Model_keyOf 6 = .ok (.iload_n 2, 1) ∧ decode b_Model_keyOf 7 = .ok (.invokevirtual 91, 3) ∧ decode b_Model_keyOf 10 = .ok (.invokestatic 55, 3) ∧ decode b_Model_keyOf 13 = .ok (.goto 14, 3) ∧ decode b_Model_keyOf 16 = .ok (.aload_n 0, 1) ∧ decode b_Model_keyOf 17 = .ok (.iload_n 1, 1) ∧ decode b_Model_keyOf 18 = .ok (.iload_n 2, 1) ∧ decode b_Model_keyOf 19 = .ok (.invokevirtual 91, 3) ∧ decode b_Model_keyOf 22 = .ok (.invokestatic 59, 3) ∧ decode b_Model_keyOf 25 = .ok (.iconst 1, 1) ∧ decode b_Model_keyOf 26 = .ok (.iadd, 1) ∧ decode b_Model_keyOf 27 = .ok (.ireturn, 1) := ⟨d_Model_keyOf_0, d_Model_keyOf_1, d_Model_keyOf_4, d_Model_keyOf_5, d_Model_keyOf_6, d_Model_keyOf_7, d_Model_keyOf_10, d_Model_keyOf_13, d_Model_keyOf_16, d_Model_keyOf_17, d_Model_keyOf_18, d_Model_keyOf_19, d_Model_keyOf_22, d_Model_keyOf_25, d_Model_keyOf_26, d_Model_keyOf_27⟩
theorem v_Model_keyOf : Cond.instanceMethod y_Model_keyOf ∈ nm_Ts ∧ Cond.selects y_Model_keyOf.cls y_Model_keyOf y_Model_keyOf ∈ nm_Ts ∧ Cond.initialized y_Model_keyOf.cls ∈ nm_Ts ∧ Cond.code y_Model_keyOf b_Model_keyOf 4 (some .int) ∈ nm_Ts ∧ mz_cl1 y_Model_keyOf 3 := ⟨nm_t4 203 rfl rfl, nm_s 23 rfl rfl, nm_t1 12 rfl rfl, nm_t4 204 rfl rfl, by decide +kernel⟩
def y_Model_at : MethodName := ⟨"CardOfficeModel", "at", "(II)I"⟩
abbrev b_Model_at : ByteArray := prog_14_method_7_code
def r_Model_at (c s : Nat) : Room := { frames := 0, cells := c, slots := s, locals := 0 }
theorem d_Model_at_0 : decode b_Model_at 0 = .ok (.aload_n 0, 1) := by decide +kernel
theorem d_Model_at_1 : decode b_Model_at 1 = .ok (.getfield 7, 3) := by decide +kernel
theorem d_Model_at_4 : decode b_Model_at 4 = .ok (.bipush 16, 2) := by decide +kernel
theorem d_Model_at_6 : decode b_Model_at 6 = .ok (.iload_n 1, 1) := by decide +kernel
theorem d_Model_at_7 : decode b_Model_at 7 = .ok (.imul, 1) := by decide +kernel
theorem d_Model_at_8 : decode b_Model_at 8 = .ok (.iload_n 2, 1) := by decide +kernel
theorem d_Model_at_9 : decode b_Model_at 9 = .ok (.iadd, 1) := by decide +kernel
theorem d_Model_at_10 : decode b_Model_at 10 = .ok (.baload, 1) := by decide +kernel
theorem d_Model_at_11 : decode b_Model_at 11 = .ok (.ireturn, 1) := by decide +kernel
theorem d_Model_at : decode b_Model_at 0 = .ok (.aload_n 0, 1) ∧ decode b_Model_at 1 = .ok (.getfield 7, 3) ∧ decode b_Model_at 4 = .ok (.bipush 16, 2) ∧ decode b_Model_at 6 = .ok (.iload_n 1, 1) ∧ decode b_Model_at 7 = .ok (.imul, 1) ∧ decode b_Model_at 8 = .ok (.iload_n 2, 1) ∧ decode b_Model_at 9 = .ok (.iadd, 1) ∧ decode b_Model_at 10 = .ok (.baload, 1) ∧ decode b_Model_at 11 = .ok (.ireturn, 1) := ⟨d_Model_at_0, d_Model_at_1, d_Model_at_4, d_Model_at_6, d_Model_at_7, d_Model_at_8, d_Model_at_9, d_Model_at_10, d_Model_at_11⟩
theorem v_Model_at : Cond.instanceMethod y_Model_at ∈ nm_Ts ∧ Cond.selects y_Model_at.cls y_Model_at y_Model_at ∈ nm_Ts ∧ Cond.initialized y_Model_at.cls ∈ nm_Ts ∧ Cond.code y_Model_at b_Model_at 3 (some .int) ∈ nm_Ts ∧ mz_cl1 y_Model_at 2 := ⟨nm_t4 207 rfl rfl, nm_s 24 rfl rfl, nm_t1 12 rfl rfl, nm_t4 208 rfl rfl, by decide +kernel⟩
def y_Model_zoneOf : MethodName := ⟨"CardOfficeModel", "zoneOf", "(I)I"⟩
abbrev b_Model_zoneOf : ByteArray := prog_14_method_5_code
def r_Model_zoneOf (c s : Nat) : Room := { frames := 0, cells := c, slots := s, locals := 0 }
theorem d_Model_zoneOf_0 : decode b_Model_zoneOf 0 = .ok (.iload_n 0, 1) := by decide +kernel
theorem d_Model_zoneOf_1 : decode b_Model_zoneOf 1 = .ok (.bipush 65, 2) := by decide +kernel
theorem d_Model_zoneOf_3 : decode b_Model_zoneOf 3 = .ok (.if_icmp .ge 7, 3) := by decide +kernel
theorem d_Model_zoneOf_6 : decode b_Model_zoneOf 6 = .ok (.iconst 0, 1) := by decide +kernel
theorem d_Model_zoneOf_7 : decode b_Model_zoneOf 7 = .ok (.goto 24, 3) := by decide +kernel
theorem d_Model_zoneOf_10 : decode b_Model_zoneOf 10 = .ok (.iload_n 0, 1) := by decide +kernel
theorem d_Model_zoneOf_11 : decode b_Model_zoneOf 11 = .ok (.bipush 74, 2) := by decide +kernel
theorem d_Model_zoneOf_13 : decode b_Model_zoneOf 13 = .ok (.if_icmp .ge 7, 3) := by decide +kernel
theorem d_Model_zoneOf_16 : decode b_Model_zoneOf 16 = .ok (.iconst 3, 1) := by decide +kernel
theorem d_Model_zoneOf_17 : decode b_Model_zoneOf 17 = .ok (.goto 14, 3) := by decide +kernel
theorem d_Model_zoneOf_20 : decode b_Model_zoneOf 20 = .ok (.iload_n 0, 1) := by decide +kernel
theorem d_Model_zoneOf_21 : decode b_Model_zoneOf 21 = .ok (.bipush 83, 2) := by decide +kernel
theorem d_Model_zoneOf_23 : decode b_Model_zoneOf 23 = .ok (.if_icmp .ge 7, 3) := by decide +kernel
theorem d_Model_zoneOf_26 : decode b_Model_zoneOf 26 = .ok (.iconst 2, 1) := by decide +kernel
theorem d_Model_zoneOf_27 : decode b_Model_zoneOf 27 = .ok (.goto 4, 3) := by decide +kernel
theorem d_Model_zoneOf_30 : decode b_Model_zoneOf 30 = .ok (.iconst 1, 1) := by decide +kernel
theorem d_Model_zoneOf_31 : decode b_Model_zoneOf 31 = .ok (.ireturn, 1) := by decide +kernel
theorem d_Model_zoneOf : decode b_Model_zoneOf 0 = .ok (.iload_n 0, 1) ∧ decode b_Model_zoneOf 1 = .ok (.bipush 65, 2) ∧ decode b_Model_zoneOf 3 = .ok (.if_icmp .ge 7, 3) ∧ decode b_Model_zoneOf 6 = .ok (.iconst 0, 1) ∧ decode b_Model_zoneOf 7 = .ok (.goto 24, 3) ∧ decode b_Model_zoneOf 10 = .ok (.iload_n 0, 1) ∧ decode b_Model_zoneOf 11 = .ok (.bipush 74, 2) ∧ decode b_Model_zoneOf 13 = .ok (.if_icmp .ge 7, 3) ∧ decode b_Model_zoneOf 16 = .ok (.iconst 3, 1) ∧ decode b_Model_zoneOf 17 = .ok (.goto 14, 3) ∧ decode b_Model_zoneOf 20 = .ok (.iload_n 0, 1) ∧ decode b_Model_zoneOf 21 = .ok (.bipush 83, 2) ∧ decode b_Model_zoneOf 23 = .ok (.if_icmp .ge 7, 3) ∧ decode b_Model_zoneOf 26 = .ok (.iconst 2, 1) ∧ decode b_Model_zoneOf 27 = .ok (.goto 4, 3) ∧ decode b_Model_zoneOf 30 = .ok (.iconst 1, 1) ∧ decode b_Model_zoneOf 31 = .ok (.ireturn, 1) := ⟨d_Model_zoneOf_0, d_Model_zoneOf_1, d_Model_zoneOf_3, d_Model_zoneOf_6, d_Model_zoneOf_7, d_Model_zoneOf_10, d_Model_zoneOf_11, d_Model_zoneOf_13, d_Model_zoneOf_16, d_Model_zoneOf_17, d_Model_zoneOf_20, d_Model_zoneOf_21, d_Model_zoneOf_23, d_Model_zoneOf_26, d_Model_zoneOf_27, d_Model_zoneOf_30, d_Model_zoneOf_31⟩
theorem s_Model_zoneOf : Cond.static y_Model_zoneOf ∈ nm_Ts ∧ Cond.initialized y_Model_zoneOf.cls ∈ nm_Ts ∧ Cond.code y_Model_zoneOf b_Model_zoneOf 1 (some .int) ∈ nm_Ts ∧ mz_cl1 y_Model_zoneOf 1 := ⟨nm_t4 210 rfl rfl, nm_t1 12 rfl rfl, nm_t4 211 rfl rfl, by decide +kernel⟩
def y_Model_digitOf : MethodName := ⟨"CardOfficeModel", "digitOf", "(I)I"⟩
abbrev b_Model_digitOf : ByteArray := prog_14_method_4_code
def r_Model_digitOf (c s : Nat) : Room := { frames := 0, cells := c, slots := s, locals := 0 }
theorem d_Model_digitOf_0 : decode b_Model_digitOf 0 = .ok (.iload_n 0, 1) := by decide +kernel
theorem d_Model_digitOf_1 : decode b_Model_digitOf 1 = .ok (.bipush 32, 2) := by decide +kernel
theorem d_Model_digitOf_3 : decode b_Model_digitOf 3 = .ok (.if_icmp .ne 5, 3) := by decide +kernel
theorem d_Model_digitOf_6 : decode b_Model_digitOf 6 = .ok (.iconst (-1), 1) := by decide +kernel
theorem d_Model_digitOf_7 : decode b_Model_digitOf 7 = .ok (.ireturn, 1) := by decide +kernel
theorem d_Model_digitOf_8 : decode b_Model_digitOf 8 = .ok (.iload_n 0, 1) := by decide +kernel
theorem d_Model_digitOf_9 : decode b_Model_digitOf 9 = .ok (.bipush 65, 2) := by decide +kernel
theorem d_Model_digitOf_11 : decode b_Model_digitOf 11 = .ok (.if_icmp .ge 10, 3) := by decide +kernel
theorem d_Model_digitOf_14 : decode b_Model_digitOf 14 = .ok (.iload_n 0, 1) := by decide +kernel
theorem d_Model_digitOf_15 : decode b_Model_digitOf 15 = .ok (.bipush 48, 2) := by decide +kernel
theorem d_Model_digitOf_17 : decode b_Model_digitOf 17 = .ok (.isub, 1) := by decide +kernel
theorem d_Model_digitOf_18 : decode b_Model_digitOf 18 = .ok (.goto 33, 3) := by decide +kernel
theorem d_Model_digitOf_21 : decode b_Model_digitOf 21 = .ok (.iload_n 0, 1) := by decide +kernel
theorem d_Model_digitOf_22 : decode b_Model_digitOf 22 = .ok (.bipush 74, 2) := by decide +kernel
theorem d_Model_digitOf_24 : decode b_Model_digitOf 24 = .ok (.if_icmp .ge 10, 3) := by decide +kernel
theorem d_Model_digitOf_27 : decode b_Model_digitOf 27 = .ok (.iload_n 0, 1) := by decide +kernel
theorem d_Model_digitOf_28 : decode b_Model_digitOf 28 = .ok (.bipush 64, 2) := by decide +kernel
theorem d_Model_digitOf_30 : decode b_Model_digitOf 30 = .ok (.isub, 1) := by decide +kernel
theorem d_Model_digitOf_31 : decode b_Model_digitOf 31 = .ok (.goto 20, 3) := by decide +kernel
theorem d_Model_digitOf_34 : decode b_Model_digitOf 34 = .ok (.iload_n 0, 1) := by decide +kernel
theorem d_Model_digitOf_35 : decode b_Model_digitOf 35 = .ok (.bipush 83, 2) := by decide +kernel
theorem d_Model_digitOf_37 : decode b_Model_digitOf 37 = .ok (.if_icmp .ge 10, 3) := by decide +kernel
theorem d_Model_digitOf_40 : decode b_Model_digitOf 40 = .ok (.iload_n 0, 1) := by decide +kernel
theorem d_Model_digitOf_41 : decode b_Model_digitOf 41 = .ok (.bipush 73, 2) := by decide +kernel
theorem d_Model_digitOf_43 : decode b_Model_digitOf 43 = .ok (.isub, 1) := by decide +kernel
theorem d_Model_digitOf_44 : decode b_Model_digitOf 44 = .ok (.goto 7, 3) := by decide +kernel
theorem d_Model_digitOf_47 : decode b_Model_digitOf 47 = .ok (.iload_n 0, 1) := by decide +kernel
theorem d_Model_digitOf_48 : decode b_Model_digitOf 48 = .ok (.bipush 81, 2) := by decide +kernel
theorem d_Model_digitOf_50 : decode b_Model_digitOf 50 = .ok (.isub, 1) := by decide +kernel
theorem d_Model_digitOf_51 : decode b_Model_digitOf 51 = .ok (.ireturn, 1) := by decide +kernel
theorem d_Model_digitOf : decode b_Model_digitOf 0 = .ok (.iload_n 0, 1) ∧ decode b_Model_digitOf 1 = .ok (.bipush 32, 2) ∧ decode b_Model_digitOf 3 = .ok (.if_icmp .ne 5, 3) ∧ decode b_Model_digitOf 6 = .ok (.iconst (-1), 1) ∧ decode b_Model_digitOf 7 = .ok (.ireturn, 1) ∧ decode b_Model_digitOf 8 = .ok (.iload_n 0, 1) ∧ decode b_Model_digitOf 9 = .ok (.bipush 65, 2) ∧ decode b_Model_digitOf 11 = .ok (.if_icmp .ge 10, 3) ∧ decode b_Model_digitOf 14 = .ok (.iload_n 0, 1) ∧ decode b_Model_digitOf 15 = .ok (.bipush 48, 2) ∧ decode b_Model_digitOf 17 = .ok (.isub, 1) ∧ decode b_Model_digitOf 18 = .ok (.goto 33, 3) ∧ decode b_Model_digitOf 21 = .ok (.iload_n 0, 1) ∧ decode b_Model_digitOf 22 = .ok (.bipush 74, 2) ∧ decode b_Model_digitOf 24 = .ok (.if_icmp .ge 10, 3) ∧ decode b_Model_digitOf 27 = .ok (.iload_n 0, 1) ∧ decode b_Model_digitOf 28 = .ok (.bipush 64, 2) ∧ decode b_Model_digitOf 30 = .ok (.isub, 1) ∧ decode b_Model_digitOf 31 = .ok (.goto 20, 3) ∧ decode b_Model_digitOf 34 = .ok (.iload_n 0, 1) ∧ decode b_Model_digitOf 35 = .ok (.bipush 83, 2) ∧ decode b_Model_digitOf 37 = .ok (.if_icmp .ge 10, 3) ∧ decode b_Model_digitOf 40 = .ok (.iload_n 0, 1) ∧ decode b_Model_digitOf 41 = .ok (.bipush 73, 2) ∧ decode b_Model_digitOf 43 = .ok (.isub, 1) ∧ decode b_Model_digitOf 44 = .ok (.goto 7, 3) ∧ decode b_Model_digitOf 47 = .ok (.iload_n 0, 1) ∧ decode b_Model_digitOf 48 = .ok (.bipush 81, 2) ∧ decode b_Model_digitOf 50 = .ok (.isub, 1) ∧ decode b_Model_digitOf 51 = .ok (.ireturn, 1) := ⟨d_Model_digitOf_0, d_Model_digitOf_1, d_Model_digitOf_3, d_Model_digitOf_6, d_Model_digitOf_7, d_Model_digitOf_8, d_Model_digitOf_9, d_Model_digitOf_11, d_Model_digitOf_14, d_Model_digitOf_15, d_Model_digitOf_17, d_Model_digitOf_18, d_Model_digitOf_21, d_Model_digitOf_22, d_Model_digitOf_24, d_Model_digitOf_27, d_Model_digitOf_28, d_Model_digitOf_30, d_Model_digitOf_31, d_Model_digitOf_34, d_Model_digitOf_35, d_Model_digitOf_37, d_Model_digitOf_40, d_Model_digitOf_41, d_Model_digitOf_43, d_Model_digitOf_44, d_Model_digitOf_47, d_Model_digitOf_48, d_Model_digitOf_50, d_Model_digitOf_51⟩
theorem s_Model_digitOf : Cond.static y_Model_digitOf ∈ nm_Ts ∧ Cond.initialized y_Model_digitOf.cls ∈ nm_Ts ∧ Cond.code y_Model_digitOf b_Model_digitOf 1 (some .int) ∈ nm_Ts ∧ mz_cl1 y_Model_digitOf 1 := ⟨nm_t4 213 rfl rfl, nm_t1 12 rfl rfl, nm_t4 214 rfl rfl, by decide +kernel⟩
def y_Model_sort : MethodName := ⟨"CardOfficeModel", "sort", "(III)I"⟩
abbrev b_Model_sort : ByteArray := prog_14_method_29_code
def r_Model_sort (c s : Nat) : Room := { frames := 4, cells := c, slots := s, locals := 91 }
theorem d_Model_sort_0 : decode b_Model_sort 0 = .ok (.aload_n 0, 1) := by decide +kernel
theorem d_Model_sort_1 : decode b_Model_sort 1 = .ok (.iload_n 1, 1) := by decide +kernel
theorem d_Model_sort_2 : decode b_Model_sort 2 = .ok (.invokestatic 65, 3) := by decide +kernel
theorem d_Model_sort_5 : decode b_Model_sort 5 = .ok (.ifCond .eq 15, 3) := by decide +kernel
theorem d_Model_sort_8 : decode b_Model_sort 8 = .ok (.iload_n 2, 1) := by decide +kernel
theorem d_Model_sort_9 : decode b_Model_sort 9 = .ok (.iload_n 3, 1) := by decide +kernel
theorem d_Model_sort_10 : decode b_Model_sort 10 = .ok (.invokestatic 121, 3) := by decide +kernel
theorem d_Model_sort_13 : decode b_Model_sort 13 = .ok (.ifCond .eq 7, 3) := by decide +kernel
theorem d_Model_sort_16 : decode b_Model_sort 16 = .ok (.iconst 0, 1) := by decide +kernel
theorem d_Model_sort_17 : decode b_Model_sort 17 = .ok (.goto 4, 3) := by decide +kernel
theorem d_Model_sort_20 : decode b_Model_sort 20 = .ok (.iconst 1, 1) := by decide +kernel
theorem d_Model_sort_21 : decode b_Model_sort 21 = .ok (.putfield 52, 3) := by decide +kernel
theorem d_Model_sort_24 : decode b_Model_sort 24 = .ok (.aload_n 0, 1) := by decide +kernel
theorem d_Model_sort_25 : decode b_Model_sort 25 = .ok (.getfield 52, 3) := by decide +kernel
theorem d_Model_sort_28 : decode b_Model_sort 28 = .ok (.ifCond .gt 13, 3) := by decide +kernel
theorem d_Model_sort_31 : decode b_Model_sort 31 = .ok (.aload_n 0, 1) := by decide +kernel
theorem d_Model_sort_32 : decode b_Model_sort 32 = .ok (.iload_n 1, 1) := by decide +kernel
theorem d_Model_sort_33 : decode b_Model_sort 33 = .ok (.iload_n 2, 1) := by decide +kernel
theorem d_Model_sort_34 : decode b_Model_sort 34 = .ok (.iload_n 3, 1) := by decide +kernel
theorem d_Model_sort_35 : decode b_Model_sort 35 = .ok (.invokevirtual 125, 3) := by decide +kernel
theorem d_Model_sort_38 : decode b_Model_sort 38 = .ok (.ifCond .eq 5, 3) := by decide +kernel
theorem d_Model_sort_41 : decode b_Model_sort 41 = .ok (.iconst 0, 1) := by decide +kernel
theorem d_Model_sort_42 : decode b_Model_sort 42 = .ok (.ireturn, 1) := by decide +kernel
theorem d_Model_sort_43 : decode b_Model_sort 43 = .ok (.iconst 0, 1) := by decide +kernel
theorem d_Model_sort_44 : decode b_Model_sort 44 = .ok (.istore 4, 2) := by decide +kernel
theorem d_Model_sort_46 : decode b_Model_sort 46 = .ok (.iload_n 2, 1) := by decide +kernel
theorem d_Model_sort_47 : decode b_Model_sort 47 = .ok (.istore 5, 2) := by decide +kernel
theorem d_Model_sort_49 : decode b_Model_sort 49 = .ok (.iload 5, 2) := by decide +kernel
theorem d_Model_sort_51 : decode b_Model_sort 51 = .ok (.iload_n 3, 1) := by decide +kernel
theorem d_Model_sort_52 : decode b_Model_sort 52 = .ok (.if_icmp .gt 78, 3) := by decide +kernel
theorem d_Model_sort_55 : decode b_Model_sort 55 = .ok (.iconst 0, 1) := by decide +kernel
theorem d_Model_sort_56 : decode b_Model_sort 56 = .ok (.istore 6, 2) := by decide +kernel
theorem d_Model_sort_58 : decode b_Model_sort 58 = .ok (.iconst 0, 1) := by decide +kernel
theorem d_Model_sort_59 : decode b_Model_sort 59 = .ok (.istore 7, 2) := by decide +kernel
theorem d_Model_sort_61 : decode b_Model_sort 61 = .ok (.iload 7, 2) := by decide +kernel
theorem d_Model_sort_63 : decode b_Model_sort 63 = .ok (.aload_n 0, 1) := by decide +kernel
theorem d_Model_sort_64 : decode b_Model_sort 64 = .ok (.getfield 17, 3) := by decide +kernel
theorem d_Model_sort_67 : decode b_Model_sort 67 = .ok (.iload_n 1, 1) := by decide +kernel
theorem d_Model_sort_68 : decode b_Model_sort 68 = .ok (.iaload, 1) := by decide +kernel
theorem d_Model_sort_69 : decode b_Model_sort 69 = .ok (.if_icmp .ge 40, 3) := by decide +kernel
theorem d_Model_sort_72 : decode b_Model_sort 72 = .ok (.iload 6, 2) := by decide +kernel
theorem d_Model_sort_74 : decode b_Model_sort 74 = .ok (.ifCond .ne 22, 3) := by decide +kernel
theorem d_Model_sort_77 : decode b_Model_sort 77 = .ok (.aload_n 0, 1) := by decide +kernel
theorem d_Model_sort_78 : decode b_Model_sort 78 = .ok (.aload_n 0, 1) := by decide +kernel
theorem d_Model_sort_79 : decode b_Model_sort 79 = .ok (.iload_n 1, 1) := by decide +kernel
theorem d_Model_sort_80 : decode b_Model_sort 80 = .ok (.iload 7, 2) := by decide +kernel
theorem d_Model_sort_82 : decode b_Model_sort 82 = .ok (.invokevirtual 98, 3) := by decide +kernel
theorem d_Model_sort_85 : decode b_Model_sort 85 = .ok (.iload 5, 2) := by decide +kernel
theorem d_Model_sort_87 : decode b_Model_sort 87 = .ok (.invokevirtual 91, 3) := by decide +kernel
theorem d_Model_sort_90 : decode b_Model_sort 90 = .ok (.invokestatic 55, 3) := by decide +kernel
theorem d_Model_sort_93 : decode b_Model_sort 93 = .ok (.ifCond .le 7, 3) := by decide +kernel
theorem d_Model_sort_96 : decode b_Model_sort 96 = .ok (.iconst 1, 1) := by decide +kernel
theorem d_Model_sort_97 : decode b_Model_sort 97 = .ok (.goto 4, 3) := by decide +kernel
theorem d_Model_sort_100 : decode b_Model_sort 100 = .ok (.iconst 0, 1) := by decide +kernel
theorem d_Model_sort_101 : decode b_Model_sort 101 = .ok (.istore 6, 2) := by decide +kernel
theorem d_Model_sort_103 : decode b_Model_sort 103 = .ok (.iinc 7 1, 3) := by decide +kernel
theorem d_Model_sort_106 : decode b_Model_sort 106 = .ok (.goto (-45), 3) := by decide +kernel
theorem d_Model_sort_109 : decode b_Model_sort 109 = .ok (.iload 4, 2) := by decide +kernel
theorem d_Model_sort_111 : decode b_Model_sort 111 = .ok (.iload 6, 2) := by decide +kernel
theorem d_Model_sort_113 : decode b_Model_sort 113 = .ok (.ifCond .eq 7, 3) := by decide +kernel
theorem d_Model_sort_116 : decode b_Model_sort 116 = .ok (.iconst 2, 1) := by decide +kernel
theorem d_Model_sort_117 : decode b_Model_sort 117 = .ok (.goto 4, 3) := by decide +kernel
theorem d_Model_sort_120 : decode b_Model_sort 120 = .ok (.iconst 1, 1) := by decide +kernel
theorem d_Model_sort_121 : decode b_Model_sort 121 = .ok (.iadd, 1) := by decide +kernel
theorem d_Model_sort_122 : decode b_Model_sort 122 = .ok (.istore 4, 2) := by decide +kernel
theorem d_Model_sort_124 : decode b_Model_sort 124 = .ok (.iinc 5 1, 3) := by decide +kernel
theorem d_Model_sort_127 : decode b_Model_sort 127 = .ok (.goto (-78), 3) := by decide +kernel
theorem d_Model_sort_130 : decode b_Model_sort 130 = .ok (.iconst 0, 1) := by decide +kernel
theorem d_Model_sort_131 : decode b_Model_sort 131 = .ok (.istore 5, 2) := by decide +kernel
theorem d_Model_sort_133 : decode b_Model_sort 133 = .ok (.iload 5, 2) := by decide +kernel
theorem d_Model_sort_135 : decode b_Model_sort 135 = .ok (.aload_n 0, 1) := by decide +kernel
theorem d_Model_sort_136 : decode b_Model_sort 136 = .ok (.getfield 17, 3) := by decide +kernel
theorem d_Model_sort_139 : decode b_Model_sort 139 = .ok (.iload_n 1, 1) := by decide +kernel
theorem d_Model_sort_140 : decode b_Model_sort 140 = .ok (.iaload, 1) := by decide +kernel
theorem d_Model_sort_141 : decode b_Model_sort 141 = .ok (.if_icmp .ge 28, 3) := by decide +kernel
theorem d_Model_sort_144 : decode b_Model_sort 144 = .ok (.aload_n 0, 1) := by decide +kernel
theorem d_Model_sort_145 : decode b_Model_sort 145 = .ok (.aload_n 0, 1) := by decide +kernel
theorem d_Model_sort_146 : decode b_Model_sort 146 = .ok (.getfield 21, 3) := by decide +kernel
theorem d_Model_sort_149 : decode b_Model_sort 149 = .ok (.iload 5, 2) := by decide +kernel
theorem d_Model_sort_151 : decode b_Model_sort 151 = .ok (.aload_n 0, 1) := by decide +kernel
theorem d_Model_sort_152 : decode b_Model_sort 152 = .ok (.iload_n 1, 1) := by decide +kernel
theorem d_Model_sort_153 : decode b_Model_sort 153 = .ok (.iload 5, 2) := by decide +kernel
theorem d_Model_sort_155 : decode b_Model_sort 155 = .ok (.invokevirtual 98, 3) := by decide +kernel
theorem d_Model_sort_158 : decode b_Model_sort 158 = .ok (.iload_n 2, 1) := by decide +kernel
theorem d_Model_sort_159 : decode b_Model_sort 159 = .ok (.iload_n 3, 1) := by decide +kernel
theorem d_Model_sort_160 : decode b_Model_sort 160 = .ok (.invokevirtual 129, 3) := by decide +kernel
theorem d_Model_sort_163 : decode b_Model_sort 163 = .ok (.iinc 5 1, 3) := by decide +kernel
theorem d_Model_sort_166 : decode b_Model_sort 166 = .ok (.goto (-33), 3) := by decide +kernel
theorem d_Model_sort_169 : decode b_Model_sort 169 = .ok (.iconst 0, 1) := by decide +kernel
theorem d_Model_sort_170 : decode b_Model_sort 170 = .ok (.istore 5, 2) := by decide +kernel
theorem d_Model_sort_172 : decode b_Model_sort 172 = .ok (.iload 5, 2) := by decide +kernel
theorem d_Model_sort_174 : decode b_Model_sort 174 = .ok (.aload_n 0, 1) := by decide +kernel
theorem d_Model_sort_175 : decode b_Model_sort 175 = .ok (.getfield 17, 3) := by decide +kernel
theorem d_Model_sort_178 : decode b_Model_sort 178 = .ok (.iload_n 1, 1) := by decide +kernel
theorem d_Model_sort_179 : decode b_Model_sort 179 = .ok (.iaload, 1) := by decide +kernel
theorem d_Model_sort_180 : decode b_Model_sort 180 = .ok (.if_icmp .ge 29, 3) := by decide +kernel
theorem d_Model_sort_183 : decode b_Model_sort 183 = .ok (.aload_n 0, 1) := by decide +kernel
theorem d_Model_sort_184 : decode b_Model_sort 184 = .ok (.getfield 13, 3) := by decide +kernel
theorem d_Model_sort_187 : decode b_Model_sort 187 = .ok (.sipush 200, 3) := by decide +kernel
theorem d_Model_sort_190 : decode b_Model_sort 190 = .ok (.iload_n 1, 1) := by decide +kernel
theorem d_Model_sort_191 : decode b_Model_sort 191 = .ok (.imul, 1) := by decide +kernel
theorem d_Model_sort_192 : decode b_Model_sort 192 = .ok (.iload 5, 2) := by decide +kernel
theorem d_Model_sort_194 : decode b_Model_sort 194 = .ok (.iadd, 1) := by decide +kernel
theorem d_Model_sort_195 : decode b_Model_sort 195 = .ok (.aload_n 0, 1) := by decide +kernel
theorem d_Model_sort_196 : decode b_Model_sort 196 = .ok (.getfield 21, 3) := by decide +kernel
theorem d_Model_sort_199 : decode b_Model_sort 199 = .ok (.iload 5, 2) := by decide +kernel
theorem d_Model_sort_201 : decode b_Model_sort 201 = .ok (.saload, 1) := by decide +kernel
theorem d_Model_sort_202 : decode b_Model_sort 202 = .ok (.sastore, 1) := by decide +kernel
theorem d_Model_sort_203 : decode b_Model_sort 203 = .ok (.iinc 5 1, 3) := by decide +kernel
theorem d_Model_sort_206 : decode b_Model_sort 206 = .ok (.goto (-34), 3) := by decide +kernel
theorem d_Model_sort_209 : decode b_Model_sort 209 = .ok (.aload_n 0, 1) := by decide +kernel
theorem d_Model_sort_210 : decode b_Model_sort 210 = .ok (.dup, 1) := by decide +kernel
theorem d_Model_sort_211 : decode b_Model_sort 211 = .ok (.getfield 105, 3) := by decide +kernel
theorem d_Model_sort_214 : decode b_Model_sort 214 = .ok (.iload 4, 2) := by decide +kernel
theorem d_Model_sort_216 : decode b_Model_sort 216 = .ok (.iadd, 1) := by decide +kernel
theorem d_Model_sort_217 : decode b_Model_sort 217 = .ok (.putfield 105, 3) := by decide +kernel
theorem d_Model_sort_220 : decode b_Model_sort 220 = .ok (.iload 4, 2) := by decide +kernel
theorem d_Model_sort_222 : decode b_Model_sort 222 = .ok (.ireturn, 1) := by decide +kernel
theorem d_Model_sort : decode b_Model_sort 0 = .ok (.aload_n 0, 1) ∧ decode b_Model_sort 1 = .ok (.iload_n 1, 1) ∧ decode b_Model_sort 2 = .ok (.invokestatic 65, 3) ∧ decode b_Model_sort 5 = .ok (.ifCond .eq 15, 3) ∧ decode b_Model_sort 8 = .ok (.iload_n 2, 1) ∧ decode b_Model_sort 9 = .ok (.iload_n 3, 1) ∧ decode b_Model_sort 10 = .ok (.invokestatic 121, 3) ∧ decode b_Model_sort 13 = .ok (.ifCond .eq 7, 3) ∧ decode b_Model_sort 16 = .ok (.iconst 0, 1) ∧ decode b_Model_sort 17 = .ok (.goto 4, 3) ∧ decode b_Model_sort 20 = .ok (.iconst 1, 1) ∧ decode b_Model_sort 21 = .ok (.putfield 52, 3) ∧ decode b_Model_sort 24 = .ok (.aload_n 0, 1) ∧ decode b_Model_sort 25 = .ok (.getfield 52, 3) ∧ decode b_Model_sort 28 = .ok (.ifCond .gt 13, 3) ∧ decode b_Model_sort 31 = .ok (.aload_n 0, 1) ∧ decode b_Model_sort 32 = .ok (.iload_n 1, 1) ∧ decode b_Model_sort 33 = .ok (.iload_n 2, 1) ∧ decode b_Model_sort 34 = .ok (.iload_n 3, 1) ∧ decode b_Model_sort 35 = .ok (.invokevirtual 125, 3) ∧ decode b_Model_sort 38 = .ok (.ifCond .eq 5, 3) ∧ decode b_Model_sort 41 = .ok (.iconst 0, 1) ∧ decode b_Model_sort 42 = .ok (.ireturn, 1) ∧ decode b_Model_sort 43 = .ok (.iconst 0, 1) ∧ decode b_Model_sort 44 = .ok (.istore 4, 2) ∧ decode b_Model_sort 46 = .ok (.iload_n 2, 1) ∧ decode b_Model_sort 47 = .ok (.istore 5, 2) ∧ decode b_Model_sort 49 = .ok (.iload 5, 2) ∧ decode b_Model_sort 51 = .ok (.iload_n 3, 1) ∧ decode b_Model_sort 52 = .ok (.if_icmp .gt 78, 3) ∧ decode b_Model_sort 55 = .ok (.iconst 0, 1) ∧ decode b_Model_sort 56 = .ok (.istore 6, 2) ∧ decode b_Model_sort 58 = .ok (.iconst 0, 1) ∧ decode b_Model_sort 59 = .ok (.istore 7, 2) ∧ decode b_Model_sort 61 = .ok (.iload 7, 2) ∧ decode b_Model_sort 63 = .ok (.aload_n 0, 1) ∧ decode b_Model_sort 64 = .ok (.getfield 17, 3) ∧ decode b_Model_sort 67 = .ok (.iload_n 1, 1) ∧ decode b_Model_sort 68 = .ok (.iaload, 1) ∧ decode b_Model_sort 69 = .ok (.if_icmp .ge 40, 3) ∧ decode b_Model_sort 72 = .ok (.iload 6, 2) ∧ decode b_Model_sort 74 = .ok (.ifCond .ne 22, 3) ∧ decode b_Model_sort 77 = .ok (.aload_n 0, 1) ∧ decode b_Model_sort 78 = .ok (.aload_n 0, 1) ∧ decode b_Model_sort 79 = .ok (.iload_n 1, 1) ∧ decode b_Model_sort 80 = .ok (.iload 7, 2) ∧ decode b_Model_sort 82 = .ok (.invokevirtual 98, 3) ∧ decode b_Model_sort 85 = .ok (.iload 5, 2) ∧ decode b_Model_sort 87 = .ok (.invokevirtual 91, 3) ∧ decode b_Model_sort 90 = .ok (.invokestatic 55, 3) ∧ decode b_Model_sort 93 = .ok (.ifCond .le 7, 3) ∧ decode b_Model_sort 96 = .ok (.iconst 1, 1) ∧ decode b_Model_sort 97 = .ok (.goto 4, 3) ∧ decode b_Model_sort 100 = .ok (.iconst 0, 1) ∧ decode b_Model_sort 101 = .ok (.istore 6, 2) ∧ decode b_Model_sort 103 = .ok (.iinc 7 1, 3) ∧ decode b_Model_sort 106 = .ok (.goto (-45), 3) ∧ decode b_Model_sort 109 = .ok (.iload 4, 2) ∧ decode b_Model_sort 111 = .ok (.iload 6, 2) ∧ decode b_Model_sort 113 = .ok (.ifCond .eq 7, 3) ∧ decode b_Model_sort 116 = .ok (.iconst 2, 1) ∧ decode b_Model_sort 117 = .ok (.goto 4, 3) ∧ decode b_Model_sort 120 = .ok (.iconst 1, 1) ∧ decode b_Model_sort 121 = .ok (.iadd, 1) ∧ decode b_Model_sort 122 = .ok (.istore 4, 2) ∧ decode b_Model_sort 124 = .ok (.iinc 5 1, 3) ∧ decode b_Model_sort 127 = .ok (.goto (-78), 3) ∧ decode b_Model_sort 130 = .ok (.iconst 0, 1) ∧ decode b_Model_sort 131 = .ok (.istore 5, 2) ∧ decode b_Model_sort 133 = .ok (.iload 5, 2) ∧ decode b_Model_sort 135 = .ok (.aload_n 0, 1) ∧ decode b_Model_sort 136 = .ok (.getfield 17, 3) ∧ decode b_Model_sort 139 = .ok (.iload_n 1, 1) ∧ decode b_Model_sort 140 = .ok (.iaload, 1) ∧ decode b_Model_sort 141 = .ok (.if_icmp .ge 28, 3) ∧ decode b_Model_sort 144 = .ok (.aload_n 0, 1) ∧ decode b_Model_sort 145 = .ok (.aload_n 0, 1) ∧ decode b_Model_sort 146 = .ok (.getfield 21, 3) ∧ decode b_Model_sort 149 = .ok (.iload 5, 2) ∧ decode b_Model_sort 151 = .ok (.aload_n 0, 1) ∧ decode b_Model_sort 152 = .ok (.iload_n 1, 1) ∧ decode b_Model_sort 153 = .ok (.iload 5, 2) ∧ decode b_Model_sort 155 = .ok (.invokevirtual 98, 3) ∧ decode b_Model_sort 158 = .ok (.iload_n 2, 1) ∧ decode b_Model_sort 159 = .ok (.iload_n 3, 1) ∧ decode b_Model_sort 160 = .ok (.invokevirtual 129, 3) ∧ decode b_Model_sort 163 = .ok (.iinc 5 1, 3) ∧ decode b_Model_sort 166 = .ok (.goto (-33), 3) ∧ decode b_Model_sort 169 = .ok (.iconst 0, 1) ∧ decode b_Model_sort 170 = .ok (.istore 5, 2) ∧ decode b_Model_sort 172 = .ok (.iload 5, 2) ∧ decode b_Model_sort 174 = .ok (.aload_n 0, 1) ∧ decode b_Model_sort 175 = .ok (.getfield 17, 3) ∧ decode b_Model_sort 178 = .ok (.iload_n 1, 1) ∧ decode b_Model_sort 179 = .ok (.iaload, 1) ∧ decode b_Model_sort 180 = .ok (.if_icmp .ge 29, 3) ∧ decode b_Model_sort 183 = .ok (.aload_n 0, 1) ∧ decode b_Model_sort 184 = .ok (.getfield 13, 3) ∧ decode b_Model_sort 187 = .ok (.sipush 200, 3) ∧ decode b_Model_sort 190 = .ok (.iload_n 1, 1) ∧ decode b_Model_sort 191 = .ok (.imul, 1) ∧ decode b_Model_sort 192 = .ok (.iload 5, 2) ∧ decode b_Model_sort 194 = .ok (.iadd, 1) ∧ decode b_Model_sort 195 = .ok (.aload_n 0, 1) ∧ decode b_Model_sort 196 = .ok (.getfield 21, 3) ∧ decode b_Model_sort 199 = .ok (.iload 5, 2) ∧ decode b_Model_sort 201 = .ok (.saload, 1) ∧ decode b_Model_sort 202 = .ok (.sastore, 1) ∧ decode b_Model_sort 203 = .ok (.iinc 5 1, 3) ∧ decode b_Model_sort 206 = .ok (.goto (-34), 3) ∧ decode b_Model_sort 209 = .ok (.aload_n 0, 1) ∧ decode b_Model_sort 210 = .ok (.dup, 1) ∧ decode b_Model_sort 211 = .ok (.getfield 105, 3) ∧ decode b_Model_sort 214 = .ok (.iload 4, 2) ∧ decode b_Model_sort 216 = .ok (.iadd, 1) ∧ decode b_Model_sort 217 = .ok (.putfield 105, 3) ∧ decode b_Model_sort 220 = .ok (.iload 4, 2) ∧ decode b_Model_sort 222 = .ok (.ireturn, 1) := ⟨d_Model_sort_0, d_Model_sort_1, d_Model_sort_2, d_Model_sort_5, d_Model_sort_8, d_Model_sort_9, d_Model_sort_10, d_Model_sort_13, d_Model_sort_16, d_Model_sort_17, d_Model_sort_20, d_Model_sort_21, d_Model_sort_24, d_Model_sort_25, d_Model_sort_28, d_Model_sort_31, d_Model_sort_32, d_Model_sort_33, d_Model_sort_34, d_Model_sort_35, d_Model_sort_38, d_Model_sort_41, d_Model_sort_42, d_Model_sort_43, d_Model_sort_44, d_Model_sort_46, d_Model_sort_47, d_Model_sort_49, d_Model_sort_51, d_Model_sort_52, d_Model_sort_55, d_Model_sort_56, d_Model_sort_58, d_Model_sort_59, d_Model_sort_61, d_Model_sort_63, d_Model_sort_64, d_Model_sort_67, d_Model_sort_68, d_Model_sort_69, d_Model_sort_72, d_Model_sort_74, d_Model_sort_77, d_Model_sort_78, d_Model_sort_79, d_Model_sort_80, d_Model_sort_82, d_Model_sort_85, d_Model_sort_87, d_Model_sort_90, d_Model_sort_93, d_Model_sort_96, d_Model_sort_97, d_Model_sort_100, d_Model_sort_101, d_Model_sort_103, d_Model_sort_106, d_Model_sort_109, d_Model_sort_111, d_Model_sort_113, d_Model_sort_116, d_Model_sort_117, d_Model_sort_120, d_Model_sort_121, d_Model_sort_122, d_Model_sort_124, d_Model_sort_127, d_Model_sort_130, d_Model_sort_131, d_Model_sort_133, d_Model_sort_135, d_Model_sort_136, d_Model_sort_139, d_Model_sort_140, d_Model_sort_141, d_Model_sort_144, d_Model_sort_145, d_Model_sort_146, d_Model_sort_149, d_Model_sort_151, d_Model_sort_152, d_Model_sort_153, d_Model_sort_155, d_Model_sort_158, d_Model_sort_159, d_Model_sort_160, d_Model_sort_163, d_Model_sort_166, d_Model_sort_169, d_Model_sort_170, d_Model_sort_172, d_Model_sort_174, d_Model_sort_175, d_Model_sort_178, d_Model_sort_179, d_Model_sort_180, d_Model_sort_183, d_Model_sort_184, d_Model_sort_187, d_Model_sort_190, d_Model_sort_191, d_Model_sort_192, d_Model_sort_194, d_Model_sort_195, d_Model_sort_196, d_Model_sort_199, d_Model_sort_201, d_Model_sort_202, d_Model_sort_203, d_Model_sort_206, d_Model_sort_209, d_Model_sort_210, d_Model_sort_211, d_Model_sort_214, d_Model_sort_216, d_Model_sort_217, d_Model_sort_220, d_Model_sort_222⟩
theorem v_Model_sort : Cond.instanceMethod y_Model_sort ∈ nm_Ts ∧ Cond.selects y_Model_sort.cls y_Model_sort y_Model_sort ∈ nm_Ts ∧ Cond.initialized y_Model_sort.cls ∈ nm_Ts ∧ Cond.code y_Model_sort b_Model_sort 8 (some .int) ∈ nm_Ts ∧ mz_cl1 y_Model_sort 3 := ⟨nm_t4 216 rfl rfl, nm_t4 217 rfl rfl, nm_t1 12 rfl rfl, nm_t4 218 rfl rfl, by decide +kernel⟩
def y_Model_isField : MethodName := ⟨"CardOfficeModel", "isField", "(II)Z"⟩
abbrev b_Model_isField : ByteArray := prog_14_method_11_code
def r_Model_isField (c s : Nat) : Room := { frames := 0, cells := c, slots := s, locals := 0 }
theorem d_Model_isField_0 : decode b_Model_isField 0 = .ok (.iload_n 0, 1) := by decide +kernel
theorem d_Model_isField_1 : decode b_Model_isField 1 = .ok (.ifCond .lt 18, 3) := by decide +kernel
theorem d_Model_isField_4 : decode b_Model_isField 4 = .ok (.iload_n 0, 1) := by decide +kernel
theorem d_Model_isField_5 : decode b_Model_isField 5 = .ok (.iload_n 1, 1) := by decide +kernel
theorem d_Model_isField_6 : decode b_Model_isField 6 = .ok (.if_icmp .gt 13, 3) := by decide +kernel
theorem d_Model_isField_9 : decode b_Model_isField 9 = .ok (.iload_n 1, 1) := by decide +kernel
theorem d_Model_isField_10 : decode b_Model_isField 10 = .ok (.bipush 16, 2) := by decide +kernel
theorem d_Model_isField_12 : decode b_Model_isField 12 = .ok (.if_icmp .ge 7, 3) := by decide +kernel
theorem d_Model_isField_15 : decode b_Model_isField 15 = .ok (.iconst 1, 1) := by decide +kernel
theorem d_Model_isField_16 : decode b_Model_isField 16 = .ok (.goto 4, 3) := by decide +kernel
theorem d_Model_isField_19 : decode b_Model_isField 19 = .ok (.iconst 0, 1) := by decide +kernel
theorem d_Model_isField_20 : decode b_Model_isField 20 = .ok (.ireturn, 1) := by decide +kernel
theorem d_Model_isField : decode b_Model_isField 0 = .ok (.iload_n 0, 1) ∧ decode b_Model_isField 1 = .ok (.ifCond .lt 18, 3) ∧ decode b_Model_isField 4 = .ok (.iload_n 0, 1) ∧ decode b_Model_isField 5 = .ok (.iload_n 1, 1) ∧ decode b_Model_isField 6 = .ok (.if_icmp .gt 13, 3) ∧ decode b_Model_isField 9 = .ok (.iload_n 1, 1) ∧ decode b_Model_isField 10 = .ok (.bipush 16, 2) ∧ decode b_Model_isField 12 = .ok (.if_icmp .ge 7, 3) ∧ decode b_Model_isField 15 = .ok (.iconst 1, 1) ∧ decode b_Model_isField 16 = .ok (.goto 4, 3) ∧ decode b_Model_isField 19 = .ok (.iconst 0, 1) ∧ decode b_Model_isField 20 = .ok (.ireturn, 1) := ⟨d_Model_isField_0, d_Model_isField_1, d_Model_isField_4, d_Model_isField_5, d_Model_isField_6, d_Model_isField_9, d_Model_isField_10, d_Model_isField_12, d_Model_isField_15, d_Model_isField_16, d_Model_isField_19, d_Model_isField_20⟩
theorem s_Model_isField : Cond.static y_Model_isField ∈ nm_Ts ∧ Cond.initialized y_Model_isField.cls ∈ nm_Ts ∧ Cond.code y_Model_isField b_Model_isField 2 (some .boolean) ∈ nm_Ts ∧ mz_cl1 y_Model_isField 2 := ⟨nm_t4 220 rfl rfl, nm_t1 12 rfl rfl, nm_t4 221 rfl rfl, by decide +kernel⟩
def y_Model_isSorted : MethodName := ⟨"CardOfficeModel", "isSorted", "(III)Z"⟩
abbrev b_Model_isSorted : ByteArray := prog_14_method_27_code
def r_Model_isSorted (c s : Nat) : Room := { frames := 3, cells := c, slots := s, locals := 65 }
theorem d_Model_isSorted_0 : decode b_Model_isSorted 0 = .ok (.iconst 1, 1) := by decide +kernel
theorem d_Model_isSorted_1 : decode b_Model_isSorted 1 = .ok (.istore 4, 2) := by decide +kernel
theorem d_Model_isSorted_3 : decode b_Model_isSorted 3 = .ok (.iconst 1, 1) := by decide +kernel
theorem d_Model_isSorted_4 : decode b_Model_isSorted 4 = .ok (.istore 5, 2) := by decide +kernel
theorem d_Model_isSorted_6 : decode b_Model_isSorted 6 = .ok (.iload 5, 2) := by decide +kernel
theorem d_Model_isSorted_8 : decode b_Model_isSorted 8 = .ok (.aload_n 0, 1) := by decide +kernel
theorem d_Model_isSorted_9 : decode b_Model_isSorted 9 = .ok (.getfield 17, 3) := by decide +kernel
theorem d_Model_isSorted_12 : decode b_Model_isSorted 12 = .ok (.iload_n 1, 1) := by decide +kernel
theorem d_Model_isSorted_13 : decode b_Model_isSorted 13 = .ok (.iaload, 1) := by decide +kernel
theorem d_Model_isSorted_14 : decode b_Model_isSorted 14 = .ok (.if_icmp .ge 46, 3) := by decide +kernel
theorem d_Model_isSorted_17 : decode b_Model_isSorted 17 = .ok (.iload 4, 2) := by decide +kernel
theorem d_Model_isSorted_19 : decode b_Model_isSorted 19 = .ok (.ifCond .eq 32, 3) := by decide +kernel
theorem d_Model_isSorted_22 : decode b_Model_isSorted 22 = .ok (.aload_n 0, 1) := by decide +kernel
theorem d_Model_isSorted_23 : decode b_Model_isSorted 23 = .ok (.aload_n 0, 1) := by decide +kernel
theorem d_Model_isSorted_24 : decode b_Model_isSorted 24 = .ok (.iload_n 1, 1) := by decide +kernel
theorem d_Model_isSorted_25 : decode b_Model_isSorted 25 = .ok (.iload 5, 2) := by decide +kernel
theorem d_Model_isSorted_27 : decode b_Model_isSorted 27 = .ok (.iconst 1, 1) := by decide +kernel
theorem d_Model_isSorted_28 : decode b_Model_isSorted 28 = .ok (.isub, 1) := by decide +kernel
theorem d_Model_isSorted_29 : decode b_Model_isSorted 29 = .ok (.invokevirtual 98, 3) := by decide +kernel
theorem d_Model_isSorted_32 : decode b_Model_isSorted 32 = .ok (.aload_n 0, 1) := by decide +kernel
theorem d_Model_isSorted_33 : decode b_Model_isSorted 33 = .ok (.iload_n 1, 1) := by decide +kernel
theorem d_Model_isSorted_34 : decode b_Model_isSorted 34 = .ok (.iload 5, 2) := by decide +kernel
theorem d_Model_isSorted_36 : decode b_Model_isSorted 36 = .ok (.invokevirtual 98, 3) := by decide +kernel
theorem d_Model_isSorted_39 : decode b_Model_isSorted 39 = .ok (.iload_n 2, 1) := by decide +kernel
theorem d_Model_isSorted_40 : decode b_Model_isSorted 40 = .ok (.iload_n 3, 1) := by decide +kernel
theorem d_Model_isSorted_41 : decode b_Model_isSorted 41 = .ok (.invokevirtual 117, 3) := by decide +kernel
theorem d_Model_isSorted_44 : decode b_Model_isSorted 44 = .ok (.ifCond .gt 7, 3) := by decide +kernel
theorem d_Model_isSorted_47 : decode b_Model_isSorted 47 = .ok (.iconst 1, 1) := by decide +kernel
theorem d_Model_isSorted_48 : decode b_Model_isSorted 48 = .ok (.goto 4, 3) := by decide +kernel
theorem d_Model_isSorted_51 : decode b_Model_isSorted 51 = .ok (.iconst 0, 1) := by decide +kernel
theorem d_Model_isSorted_52 : decode b_Model_isSorted 52 = .ok (.istore 4, 2) := by decide +kernel
theorem d_Model_isSorted_54 : decode b_Model_isSorted 54 = .ok (.iinc 5 1, 3) := by decide +kernel
theorem d_Model_isSorted_57 : decode b_Model_isSorted 57 = .ok (.goto (-51), 3) := by decide +kernel
theorem d_Model_isSorted_60 : decode b_Model_isSorted 60 = .ok (.iload 4, 2) := by decide +kernel
theorem d_Model_isSorted_62 : decode b_Model_isSorted 62 = .ok (.ireturn, 1) := by decide +kernel
theorem d_Model_isSorted : decode b_Model_isSorted 0 = .ok (.iconst 1, 1) ∧ decode b_Model_isSorted 1 = .ok (.istore 4, 2) ∧ decode b_Model_isSorted 3 = .ok (.iconst 1, 1) ∧ decode b_Model_isSorted 4 = .ok (.istore 5, 2) ∧ decode b_Model_isSorted 6 = .ok (.iload 5, 2) ∧ decode b_Model_isSorted 8 = .ok (.aload_n 0, 1) ∧ decode b_Model_isSorted 9 = .ok (.getfield 17, 3) ∧ decode b_Model_isSorted 12 = .ok (.iload_n 1, 1) ∧ decode b_Model_isSorted 13 = .ok (.iaload, 1) ∧ decode b_Model_isSorted 14 = .ok (.if_icmp .ge 46, 3) ∧ decode b_Model_isSorted 17 = .ok (.iload 4, 2) ∧ decode b_Model_isSorted 19 = .ok (.ifCond .eq 32, 3) ∧ decode b_Model_isSorted 22 = .ok (.aload_n 0, 1) ∧ decode b_Model_isSorted 23 = .ok (.aload_n 0, 1) ∧ decode b_Model_isSorted 24 = .ok (.iload_n 1, 1) ∧ decode b_Model_isSorted 25 = .ok (.iload 5, 2) ∧ decode b_Model_isSorted 27 = .ok (.iconst 1, 1) ∧ decode b_Model_isSorted 28 = .ok (.isub, 1) ∧ decode b_Model_isSorted 29 = .ok (.invokevirtual 98, 3) ∧ decode b_Model_isSorted 32 = .ok (.aload_n 0, 1) ∧ decode b_Model_isSorted 33 = .ok (.iload_n 1, 1) ∧ decode b_Model_isSorted 34 = .ok (.iload 5, 2) ∧ decode b_Model_isSorted 36 = .ok (.invokevirtual 98, 3) ∧ decode b_Model_isSorted 39 = .ok (.iload_n 2, 1) ∧ decode b_Model_isSorted 40 = .ok (.iload_n 3, 1) ∧ decode b_Model_isSorted 41 = .ok (.invokevirtual 117, 3) ∧ decode b_Model_isSorted 44 = .ok (.ifCond .gt 7, 3) ∧ decode b_Model_isSorted 47 = .ok (.iconst 1, 1) ∧ decode b_Model_isSorted 48 = .ok (.goto 4, 3) ∧ decode b_Model_isSorted 51 = .ok (.iconst 0, 1) ∧ decode b_Model_isSorted 52 = .ok (.istore 4, 2) ∧ decode b_Model_isSorted 54 = .ok (.iinc 5 1, 3) ∧ decode b_Model_isSorted 57 = .ok (.goto (-51), 3) ∧ decode b_Model_isSorted 60 = .ok (.iload 4, 2) ∧ decode b_Model_isSorted 62 = .ok (.ireturn, 1) := ⟨d_Model_isSorted_0, d_Model_isSorted_1, d_Model_isSorted_3, d_Model_isSorted_4, d_Model_isSorted_6, d_Model_isSorted_8, d_Model_isSorted_9, d_Model_isSorted_12, d_Model_isSorted_13, d_Model_isSorted_14, d_Model_isSorted_17, d_Model_isSorted_19, d_Model_isSorted_22, d_Model_isSorted_23, d_Model_isSorted_24, d_Model_isSorted_25, d_Model_isSorted_27, d_Model_isSorted_28, d_Model_isSorted_29, d_Model_isSorted_32, d_Model_isSorted_33, d_Model_isSorted_34, d_Model_isSorted_36, d_Model_isSorted_39, d_Model_isSorted_40, d_Model_isSorted_41, d_Model_isSorted_44, d_Model_isSorted_47, d_Model_isSorted_48, d_Model_isSorted_51, d_Model_isSorted_52, d_Model_isSorted_54, d_Model_isSorted_57, d_Model_isSorted_60, d_Model_isSorted_62⟩
theorem v_Model_isSorted : Cond.instanceMethod y_Model_isSorted ∈ nm_Ts ∧ Cond.selects y_Model_isSorted.cls y_Model_isSorted y_Model_isSorted ∈ nm_Ts ∧ Cond.initialized y_Model_isSorted.cls ∈ nm_Ts ∧ Cond.code y_Model_isSorted b_Model_isSorted 6 (some .boolean) ∈ nm_Ts ∧ mz_cl1 y_Model_isSorted 3 := ⟨nm_t4 224 rfl rfl, nm_s 25 rfl rfl, nm_t1 12 rfl rfl, nm_t4 225 rfl rfl, by decide +kernel⟩
def y_Model_compare : MethodName := ⟨"CardOfficeModel", "compare", "(IIII)I"⟩
abbrev b_Model_compare : ByteArray := prog_14_method_26_code
def r_Model_compare (c s : Nat) : Room := { frames := 2, cells := c, slots := s, locals := 40 }
theorem d_Model_compare_0 : decode b_Model_compare 0 = .ok (.iload_n 3, 1) := by decide +kernel
theorem d_Model_compare_1 : decode b_Model_compare 1 = .ok (.istore 5, 2) := by decide +kernel
theorem d_Model_compare_3 : decode b_Model_compare 3 = .ok (.iload 5, 2) := by decide +kernel
theorem d_Model_compare_5 : decode b_Model_compare 5 = .ok (.iload 4, 2) := by decide +kernel
theorem d_Model_compare_7 : decode b_Model_compare 7 = .ok (.if_icmp .gt 48, 3) := by decide +kernel
theorem d_Model_compare_10 : decode b_Model_compare 10 = .ok (.aload_n 0, 1) := by decide +kernel
theorem d_Model_compare_11 : decode b_Model_compare 11 = .ok (.iload_n 1, 1) := by decide +kernel
theorem d_Model_compare_12 : decode b_Model_compare 12 = .ok (.iload 5, 2) := by decide +kernel
theorem d_Model_compare_14 : decode b_Model_compare 14 = .ok (.invokevirtual 91, 3) := by decide +kernel
theorem d_Model_compare_17 : decode b_Model_compare 17 = .ok (.aload_n 0, 1) := by decide +kernel
theorem d_Model_compare_18 : decode b_Model_compare 18 = .ok (.iload_n 2, 1) := by decide +kernel
theorem d_Model_compare_19 : decode b_Model_compare 19 = .ok (.iload 5, 2) := by decide +kernel
theorem d_Model_compare_21 : decode b_Model_compare 21 = .ok (.invokevirtual 91, 3) := by decide +kernel
theorem d_Model_compare_24 : decode b_Model_compare 24 = .ok (.if_icmp .eq 25, 3) := by decide +kernel
theorem d_Model_compare_27 : decode b_Model_compare 27 = .ok (.aload_n 0, 1) := by decide +kernel
theorem d_Model_compare_28 : decode b_Model_compare 28 = .ok (.iload_n 1, 1) := by decide +kernel
theorem d_Model_compare_29 : decode b_Model_compare 29 = .ok (.iload 5, 2) := by decide +kernel
theorem d_Model_compare_31 : decode b_Model_compare 31 = .ok (.invokevirtual 91, 3) := by decide +kernel
theorem d_Model_compare_34 : decode b_Model_compare 34 = .ok (.invokestatic 114, 3) := by decide +kernel
theorem d_Model_compare_37 : decode b_Model_compare 37 = .ok (.aload_n 0, 1) := by decide +kernel
theorem d_Model_compare_38 : decode b_Model_compare 38 = .ok (.iload_n 2, 1) := by decide +kernel
theorem d_Model_compare_39 : decode b_Model_compare 39 = .ok (.iload 5, 2) := by decide +kernel
theorem d_Model_compare_41 : decode b_Model_compare 41 = .ok (.invokevirtual 91, 3) := by decide +kernel
theorem d_Model_compare_44 : decode b_Model_compare 44 = .ok (.invokestatic 114, 3) := by decide +kernel
theorem d_Model_compare_47 : decode b_Model_compare 47 = .ok (.isub, 1) := by decide +kernel
theorem d_Model_compare_48 : decode b_Model_compare 48 = .ok (.ireturn, 1) := by decide +kernel
theorem d_Model_compare_49 : decode b_Model_compare 49 = .ok (.iinc 5 1, 3) := by decide +kernel
theorem d_Model_compare_52 : decode b_Model_compare 52 = .ok (.goto (-49), 3) := by decide +kernel
theorem d_Model_compare_55 : decode b_Model_compare 55 = .ok (.iconst 0, 1) := by decide +kernel
theorem d_Model_compare_56 : decode b_Model_compare 56 = .ok (.ireturn, 1) := by decide +kernel
theorem d_Model_compare : decode b_Model_compare 0 = .ok (.iload_n 3, 1) ∧ decode b_Model_compare 1 = .ok (.istore 5, 2) ∧ decode b_Model_compare 3 = .ok (.iload 5, 2) ∧ decode b_Model_compare 5 = .ok (.iload 4, 2) ∧ decode b_Model_compare 7 = .ok (.if_icmp .gt 48, 3) ∧ decode b_Model_compare 10 = .ok (.aload_n 0, 1) ∧ decode b_Model_compare 11 = .ok (.iload_n 1, 1) ∧ decode b_Model_compare 12 = .ok (.iload 5, 2) ∧ decode b_Model_compare 14 = .ok (.invokevirtual 91, 3) ∧ decode b_Model_compare 17 = .ok (.aload_n 0, 1) ∧ decode b_Model_compare 18 = .ok (.iload_n 2, 1) ∧ decode b_Model_compare 19 = .ok (.iload 5, 2) ∧ decode b_Model_compare 21 = .ok (.invokevirtual 91, 3) ∧ decode b_Model_compare 24 = .ok (.if_icmp .eq 25, 3) ∧ decode b_Model_compare 27 = .ok (.aload_n 0, 1) ∧ decode b_Model_compare 28 = .ok (.iload_n 1, 1) ∧ decode b_Model_compare 29 = .ok (.iload 5, 2) ∧ decode b_Model_compare 31 = .ok (.invokevirtual 91, 3) ∧ decode b_Model_compare 34 = .ok (.invokestatic 114, 3) ∧ decode b_Model_compare 37 = .ok (.aload_n 0, 1) ∧ decode b_Model_compare 38 = .ok (.iload_n 2, 1) ∧ decode b_Model_compare 39 = .ok (.iload 5, 2) ∧ decode b_Model_compare 41 = .ok (.invokevirtual 91, 3) ∧ decode b_Model_compare 44 = .ok (.invokestatic 114, 3) ∧ decode b_Model_compare 47 = .ok (.isub, 1) ∧ decode b_Model_compare 48 = .ok (.ireturn, 1) ∧ decode b_Model_compare 49 = .ok (.iinc 5 1, 3) ∧ decode b_Model_compare 52 = .ok (.goto (-49), 3) ∧ decode b_Model_compare 55 = .ok (.iconst 0, 1) ∧ decode b_Model_compare 56 = .ok (.ireturn, 1) := ⟨d_Model_compare_0, d_Model_compare_1, d_Model_compare_3, d_Model_compare_5, d_Model_compare_7, d_Model_compare_10, d_Model_compare_11, d_Model_compare_12, d_Model_compare_14, d_Model_compare_17, d_Model_compare_18, d_Model_compare_19, d_Model_compare_21, d_Model_compare_24, d_Model_compare_27, d_Model_compare_28, d_Model_compare_29, d_Model_compare_31, d_Model_compare_34, d_Model_compare_37, d_Model_compare_38, d_Model_compare_39, d_Model_compare_41, d_Model_compare_44, d_Model_compare_47, d_Model_compare_48, d_Model_compare_49, d_Model_compare_52, d_Model_compare_55, d_Model_compare_56⟩
theorem v_Model_compare : Cond.instanceMethod y_Model_compare ∈ nm_Ts ∧ Cond.selects y_Model_compare.cls y_Model_compare y_Model_compare ∈ nm_Ts ∧ Cond.initialized y_Model_compare.cls ∈ nm_Ts ∧ Cond.code y_Model_compare b_Model_compare 6 (some .int) ∈ nm_Ts ∧ mz_cl1 y_Model_compare 4 := ⟨nm_t4 228 rfl rfl, nm_s 26 rfl rfl, nm_t1 12 rfl rfl, nm_t4 229 rfl rfl, by decide +kernel⟩
def y_Model_rank : MethodName := ⟨"CardOfficeModel", "rank", "(I)I"⟩
abbrev b_Model_rank : ByteArray := prog_14_method_6_code
def r_Model_rank (c s : Nat) : Room := { frames := 1, cells := c, slots := s, locals := 20 }
theorem d_Model_rank_0 : decode b_Model_rank 0 = .ok (.bipush 16, 2) := by decide +kernel
theorem d_Model_rank_2 : decode b_Model_rank 2 = .ok (.iload_n 0, 1) := by decide +kernel
theorem d_Model_rank_3 : decode b_Model_rank 3 = .ok (.invokestatic 55, 3) := by decide +kernel
theorem d_Model_rank_6 : decode b_Model_rank 6 = .ok (.imul, 1) := by decide +kernel
theorem d_Model_rank_7 : decode b_Model_rank 7 = .ok (.iload_n 0, 1) := by decide +kernel
theorem d_Model_rank_8 : decode b_Model_rank 8 = .ok (.invokestatic 59, 3) := by decide +kernel
theorem d_Model_rank_11 : decode b_Model_rank 11 = .ok (.iadd, 1) := by decide +kernel
theorem d_Model_rank_12 : decode b_Model_rank 12 = .ok (.iconst 1, 1) := by decide +kernel
theorem d_Model_rank_13 : decode b_Model_rank 13 = .ok (.iadd, 1) := by decide +kernel
theorem d_Model_rank_14 : decode b_Model_rank 14 = .ok (.ireturn, 1) := by decide +kernel
theorem d_Model_rank : decode b_Model_rank 0 = .ok (.bipush 16, 2) ∧ decode b_Model_rank 2 = .ok (.iload_n 0, 1) ∧ decode b_Model_rank 3 = .ok (.invokestatic 55, 3) ∧ decode b_Model_rank 6 = .ok (.imul, 1) ∧ decode b_Model_rank 7 = .ok (.iload_n 0, 1) ∧ decode b_Model_rank 8 = .ok (.invokestatic 59, 3) ∧ decode b_Model_rank 11 = .ok (.iadd, 1) ∧ decode b_Model_rank 12 = .ok (.iconst 1, 1) ∧ decode b_Model_rank 13 = .ok (.iadd, 1) ∧ decode b_Model_rank 14 = .ok (.ireturn, 1) := ⟨d_Model_rank_0, d_Model_rank_2, d_Model_rank_3, d_Model_rank_6, d_Model_rank_7, d_Model_rank_8, d_Model_rank_11, d_Model_rank_12, d_Model_rank_13, d_Model_rank_14⟩
theorem s_Model_rank : Cond.static y_Model_rank ∈ nm_Ts ∧ Cond.initialized y_Model_rank.cls ∈ nm_Ts ∧ Cond.code y_Model_rank b_Model_rank 1 (some .int) ∈ nm_Ts ∧ mz_cl1 y_Model_rank 1 := ⟨nm_t4 231 rfl rfl, nm_t1 12 rfl rfl, nm_t4 232 rfl rfl, by decide +kernel⟩
def y_Model_putIn : MethodName := ⟨"CardOfficeModel", "putIn", "([SIIII)V"⟩
abbrev b_Model_putIn : ByteArray := prog_14_method_28_code
def r_Model_putIn (c s : Nat) : Room := { frames := 3, cells := c, slots := s, locals := 65 }
theorem d_Model_putIn_0 : decode b_Model_putIn 0 = .ok (.iload_n 2, 1) := by decide +kernel
theorem d_Model_putIn_1 : decode b_Model_putIn 1 = .ok (.istore 6, 2) := by decide +kernel
theorem d_Model_putIn_3 : decode b_Model_putIn 3 = .ok (.iload 6, 2) := by decide +kernel
theorem d_Model_putIn_5 : decode b_Model_putIn 5 = .ok (.ifCond .le 37, 3) := by decide +kernel
theorem d_Model_putIn_8 : decode b_Model_putIn 8 = .ok (.aload_n 0, 1) := by decide +kernel
theorem d_Model_putIn_9 : decode b_Model_putIn 9 = .ok (.aload_n 1, 1) := by decide +kernel
theorem d_Model_putIn_10 : decode b_Model_putIn 10 = .ok (.iload 6, 2) := by decide +kernel
theorem d_Model_putIn_12 : decode b_Model_putIn 12 = .ok (.iconst 1, 1) := by decide +kernel
theorem d_Model_putIn_13 : decode b_Model_putIn 13 = .ok (.isub, 1) := by decide +kernel
theorem d_Model_putIn_14 : decode b_Model_putIn 14 = .ok (.saload, 1) := by decide +kernel
theorem d_Model_putIn_15 : decode b_Model_putIn 15 = .ok (.iload_n 3, 1) := by decide +kernel
theorem d_Model_putIn_16 : decode b_Model_putIn 16 = .ok (.iload 4, 2) := by decide +kernel
theorem d_Model_putIn_18 : decode b_Model_putIn 18 = .ok (.iload 5, 2) := by decide +kernel
theorem d_Model_putIn_20 : decode b_Model_putIn 20 = .ok (.invokevirtual 117, 3) := by decide +kernel
theorem d_Model_putIn_23 : decode b_Model_putIn 23 = .ok (.ifCond .le 19, 3) := by decide +kernel
theorem d_Model_putIn_26 : decode b_Model_putIn 26 = .ok (.aload_n 1, 1) := by decide +kernel
theorem d_Model_putIn_27 : decode b_Model_putIn 27 = .ok (.iload 6, 2) := by decide +kernel
theorem d_Model_putIn_29 : decode b_Model_putIn 29 = .ok (.aload_n 1, 1) := by decide +kernel
theorem d_Model_putIn_30 : decode b_Model_putIn 30 = .ok (.iload 6, 2) := by decide +kernel
theorem d_Model_putIn_32 : decode b_Model_putIn 32 = .ok (.iconst 1, 1) := by decide +kernel
theorem d_Model_putIn_33 : decode b_Model_putIn 33 = .ok (.isub, 1) := by decide +kernel
theorem d_Model_putIn_34 : decode b_Model_putIn 34 = .ok (.saload, 1) := by decide +kernel
theorem d_Model_putIn_35 : decode b_Model_putIn 35 = .ok (.sastore, 1) := by decide +kernel
theorem d_Model_putIn_36 : decode b_Model_putIn 36 = .ok (.iinc 6 (-1), 3) := by decide +kernel
theorem d_Model_putIn_39 : decode b_Model_putIn 39 = .ok (.goto (-36), 3) := by decide +kernel
theorem d_Model_putIn_42 : decode b_Model_putIn 42 = .ok (.aload_n 1, 1) := by decide +kernel
theorem d_Model_putIn_43 : decode b_Model_putIn 43 = .ok (.iload 6, 2) := by decide +kernel
theorem d_Model_putIn_45 : decode b_Model_putIn 45 = .ok (.iload_n 3, 1) := by decide +kernel
theorem d_Model_putIn_46 : decode b_Model_putIn 46 = .ok (.i2s, 1) := by decide +kernel
theorem d_Model_putIn_47 : decode b_Model_putIn 47 = .ok (.sastore, 1) := by decide +kernel
theorem d_Model_putIn_48 : decode b_Model_putIn 48 = .ok (.return_, 1) := by decide +kernel
theorem d_Model_putIn : decode b_Model_putIn 0 = .ok (.iload_n 2, 1) ∧ decode b_Model_putIn 1 = .ok (.istore 6, 2) ∧ decode b_Model_putIn 3 = .ok (.iload 6, 2) ∧ decode b_Model_putIn 5 = .ok (.ifCond .le 37, 3) ∧ decode b_Model_putIn 8 = .ok (.aload_n 0, 1) ∧ decode b_Model_putIn 9 = .ok (.aload_n 1, 1) ∧ decode b_Model_putIn 10 = .ok (.iload 6, 2) ∧ decode b_Model_putIn 12 = .ok (.iconst 1, 1) ∧ decode b_Model_putIn 13 = .ok (.isub, 1) ∧ decode b_Model_putIn 14 = .ok (.saload, 1) ∧ decode b_Model_putIn 15 = .ok (.iload_n 3, 1) ∧ decode b_Model_putIn 16 = .ok (.iload 4, 2) ∧ decode b_Model_putIn 18 = .ok (.iload 5, 2) ∧ decode b_Model_putIn 20 = .ok (.invokevirtual 117, 3) ∧ decode b_Model_putIn 23 = .ok (.ifCond .le 19, 3) ∧ decode b_Model_putIn 26 = .ok (.aload_n 1, 1) ∧ decode b_Model_putIn 27 = .ok (.iload 6, 2) ∧ decode b_Model_putIn 29 = .ok (.aload_n 1, 1) ∧ decode b_Model_putIn 30 = .ok (.iload 6, 2) ∧ decode b_Model_putIn 32 = .ok (.iconst 1, 1) ∧ decode b_Model_putIn 33 = .ok (.isub, 1) ∧ decode b_Model_putIn 34 = .ok (.saload, 1) ∧ decode b_Model_putIn 35 = .ok (.sastore, 1) ∧ decode b_Model_putIn 36 = .ok (.iinc 6 (-1), 3) ∧ decode b_Model_putIn 39 = .ok (.goto (-36), 3) ∧ decode b_Model_putIn 42 = .ok (.aload_n 1, 1) ∧ decode b_Model_putIn 43 = .ok (.iload 6, 2) ∧ decode b_Model_putIn 45 = .ok (.iload_n 3, 1) ∧ decode b_Model_putIn 46 = .ok (.i2s, 1) ∧ decode b_Model_putIn 47 = .ok (.sastore, 1) ∧ decode b_Model_putIn 48 = .ok (.return_, 1) := ⟨d_Model_putIn_0, d_Model_putIn_1, d_Model_putIn_3, d_Model_putIn_5, d_Model_putIn_8, d_Model_putIn_9, d_Model_putIn_10, d_Model_putIn_12, d_Model_putIn_13, d_Model_putIn_14, d_Model_putIn_15, d_Model_putIn_16, d_Model_putIn_18, d_Model_putIn_20, d_Model_putIn_23, d_Model_putIn_26, d_Model_putIn_27, d_Model_putIn_29, d_Model_putIn_30, d_Model_putIn_32, d_Model_putIn_33, d_Model_putIn_34, d_Model_putIn_35, d_Model_putIn_36, d_Model_putIn_39, d_Model_putIn_42, d_Model_putIn_43, d_Model_putIn_45, d_Model_putIn_46, d_Model_putIn_47, d_Model_putIn_48⟩
theorem v_Model_putIn : Cond.instanceMethod y_Model_putIn ∈ nm_Ts ∧ Cond.selects y_Model_putIn.cls y_Model_putIn y_Model_putIn ∈ nm_Ts ∧ Cond.initialized y_Model_putIn.cls ∈ nm_Ts ∧ Cond.code y_Model_putIn b_Model_putIn 7 none ∈ nm_Ts ∧ mz_cl1 y_Model_putIn 5 := ⟨nm_t4 235 rfl rfl, nm_s 27 rfl rfl, nm_t1 12 rfl rfl, nm_t4 236 rfl rfl, by decide +kernel⟩
def y_Model_merge : MethodName := ⟨"CardOfficeModel", "merge", "(IIII)I"⟩
abbrev b_Model_merge : ByteArray := prog_14_method_30_code
def r_Model_merge (c s : Nat) : Room := { frames := 4, cells := c, slots := s, locals := 91 }
theorem d_Model_merge_0 : decode b_Model_merge 0 = .ok (.iload_n 1, 1) := by decide +kernel
theorem d_Model_merge_1 : decode b_Model_merge 1 = .ok (.invokestatic 65, 3) := by decide +kernel
theorem d_Model_merge_4 : decode b_Model_merge 4 = .ok (.ifCond .eq 28, 3) := by decide +kernel
theorem d_Model_merge_7 : decode b_Model_merge 7 = .ok (.iload_n 2, 1) := by decide +kernel
theorem d_Model_merge_8 : decode b_Model_merge 8 = .ok (.invokestatic 65, 3) := by decide +kernel
theorem d_Model_merge_11 : decode b_Model_merge 11 = .ok (.ifCond .eq 21, 3) := by decide +kernel
theorem d_Model_merge_14 : decode b_Model_merge 14 = .ok (.iload_n 1, 1) := by decide +kernel
theorem d_Model_merge_15 : decode b_Model_merge 15 = .ok (.iload_n 2, 1) := by decide +kernel
theorem d_Model_merge_16 : decode b_Model_merge 16 = .ok (.if_icmp .eq 16, 3) := by decide +kernel
theorem d_Model_merge_19 : decode b_Model_merge 19 = .ok (.iload_n 3, 1) := by decide +kernel
theorem d_Model_merge_20 : decode b_Model_merge 20 = .ok (.iload 4, 2) := by decide +kernel
theorem d_Model_merge_22 : decode b_Model_merge 22 = .ok (.invokestatic 121, 3) := by decide +kernel
theorem d_Model_merge_25 : decode b_Model_merge 25 = .ok (.ifCond .eq 7, 3) := by decide +kernel
theorem d_Model_merge_28 : decode b_Model_merge 28 = .ok (.iconst 1, 1) := by decide +kernel
theorem d_Model_merge_29 : decode b_Model_merge 29 = .ok (.goto 4, 3) := by decide +kernel
theorem d_Model_merge_32 : decode b_Model_merge 32 = .ok (.iconst 0, 1) := by decide +kernel
theorem d_Model_merge_33 : decode b_Model_merge 33 = .ok (.istore 5, 2) := by decide +kernel
theorem d_Model_merge_35 : decode b_Model_merge 35 = .ok (.aload_n 0, 1) := by decide +kernel
theorem d_Model_merge_36 : decode b_Model_merge 36 = .ok (.iload 5, 2) := by decide +kernel
theorem d_Model_merge_38 : decode b_Model_merge 38 = .ok (.ifCond .ne 7, 3) := by decide +kernel
theorem d_Model_merge_41 : decode b_Model_merge 41 = .ok (.iconst 1, 1) := by decide +kernel
theorem d_Model_merge_42 : decode b_Model_merge 42 = .ok (.goto 30, 3) := by decide +kernel
theorem d_Model_merge_45 : decode b_Model_merge 45 = .ok (.aload_n 0, 1) := by decide +kernel
theorem d_Model_merge_46 : decode b_Model_merge 46 = .ok (.iload_n 1, 1) := by decide +kernel
theorem d_Model_merge_47 : decode b_Model_merge 47 = .ok (.iload_n 3, 1) := by decide +kernel
theorem d_Model_merge_48 : decode b_Model_merge 48 = .ok (.iload 4, 2) := by decide +kernel
theorem d_Model_merge_50 : decode b_Model_merge 50 = .ok (.invokevirtual 125, 3) := by decide +kernel
theorem d_Model_merge_53 : decode b_Model_merge 53 = .ok (.ifCond .eq 14, 3) := by decide +kernel
theorem d_Model_merge_56 : decode b_Model_merge 56 = .ok (.aload_n 0, 1) := by decide +kernel
theorem d_Model_merge_57 : decode b_Model_merge 57 = .ok (.iload_n 2, 1) := by decide +kernel
theorem d_Model_merge_58 : decode b_Model_merge 58 = .ok (.iload_n 3, 1) := by decide +kernel
theorem d_Model_merge_59 : decode b_Model_merge 59 = .ok (.iload 4, 2) := by decide +kernel
theorem d_Model_merge_61 : decode b_Model_merge 61 = .ok (.invokevirtual 125, 3) := by decide +kernel
theorem d_Model_merge_64 : decode b_Model_merge 64 = .ok (.ifCond .ne 7, 3) := by decide +kernel
theorem d_Model_merge_67 : decode b_Model_merge 67 = .ok (.iconst 2, 1) := by decide +kernel
theorem d_Model_merge_68 : decode b_Model_merge 68 = .ok (.goto 4, 3) := by decide +kernel
theorem d_Model_merge_71 : decode b_Model_merge 71 = .ok (.iconst 0, 1) := by decide +kernel
theorem d_Model_merge_72 : decode b_Model_merge 72 = .ok (.putfield 52, 3) := by decide +kernel
theorem d_Model_merge_75 : decode b_Model_merge 75 = .ok (.aload_n 0, 1) := by decide +kernel
theorem d_Model_merge_76 : decode b_Model_merge 76 = .ok (.getfield 52, 3) := by decide +kernel
theorem d_Model_merge_79 : decode b_Model_merge 79 = .ok (.ifCond .le 5, 3) := by decide +kernel
theorem d_Model_merge_82 : decode b_Model_merge 82 = .ok (.iconst 0, 1) := by decide +kernel
theorem d_Model_merge_83 : decode b_Model_merge 83 = .ok (.ireturn, 1) := by decide +kernel
theorem d_Model_merge_84 : decode b_Model_merge 84 = .ok (.iconst 0, 1) := by decide +kernel
theorem d_Model_merge_85 : decode b_Model_merge 85 = .ok (.istore 6, 2) := by decide +kernel
theorem d_Model_merge_87 : decode b_Model_merge 87 = .ok (.iload 6, 2) := by decide +kernel
theorem d_Model_merge_89 : decode b_Model_merge 89 = .ok (.aload_n 0, 1) := by decide +kernel
theorem d_Model_merge_90 : decode b_Model_merge 90 = .ok (.getfield 17, 3) := by decide +kernel
theorem d_Model_merge_93 : decode b_Model_merge 93 = .ok (.iload_n 1, 1) := by decide +kernel
theorem d_Model_merge_94 : decode b_Model_merge 94 = .ok (.iaload, 1) := by decide +kernel
theorem d_Model_merge_95 : decode b_Model_merge 95 = .ok (.if_icmp .ge 24, 3) := by decide +kernel
theorem d_Model_merge_98 : decode b_Model_merge 98 = .ok (.aload_n 0, 1) := by decide +kernel
theorem d_Model_merge_99 : decode b_Model_merge 99 = .ok (.getfield 21, 3) := by decide +kernel
theorem d_Model_merge_102 : decode b_Model_merge 102 = .ok (.iload 6, 2) := by decide +kernel
theorem d_Model_merge_104 : decode b_Model_merge 104 = .ok (.aload_n 0, 1) := by decide +kernel
theorem d_Model_merge_105 : decode b_Model_merge 105 = .ok (.iload_n 1, 1) := by decide +kernel
theorem d_Model_merge_106 : decode b_Model_merge 106 = .ok (.iload 6, 2) := by decide +kernel
theorem d_Model_merge_108 : decode b_Model_merge 108 = .ok (.invokevirtual 98, 3) := by decide +kernel
theorem d_Model_merge_111 : decode b_Model_merge 111 = .ok (.i2s, 1) := by decide +kernel
theorem d_Model_merge_112 : decode b_Model_merge 112 = .ok (.sastore, 1) := by decide +kernel
theorem d_Model_merge_113 : decode b_Model_merge 113 = .ok (.iinc 6 1, 3) := by decide +kernel
theorem d_Model_merge_116 : decode b_Model_merge 116 = .ok (.goto (-29), 3) := by decide +kernel
theorem d_Model_merge_119 : decode b_Model_merge 119 = .ok (.aload_n 0, 1) := by decide +kernel
theorem d_Model_merge_120 : decode b_Model_merge 120 = .ok (.getfield 17, 3) := by decide +kernel
theorem d_Model_merge_123 : decode b_Model_merge 123 = .ok (.iload_n 1, 1) := by decide +kernel
theorem d_Model_merge_124 : decode b_Model_merge 124 = .ok (.iaload, 1) := by decide +kernel
theorem d_Model_merge_125 : decode b_Model_merge 125 = .ok (.istore 6, 2) := by decide +kernel
theorem d_Model_merge_127 : decode b_Model_merge 127 = .ok (.iconst 0, 1) := by decide +kernel
theorem d_Model_merge_128 : decode b_Model_merge 128 = .ok (.istore 7, 2) := by decide +kernel
theorem d_Model_merge_130 : decode b_Model_merge 130 = .ok (.iload 7, 2) := by decide +kernel
theorem d_Model_merge_132 : decode b_Model_merge 132 = .ok (.aload_n 0, 1) := by decide +kernel
theorem d_Model_merge_133 : decode b_Model_merge 133 = .ok (.getfield 17, 3) := by decide +kernel
theorem d_Model_merge_136 : decode b_Model_merge 136 = .ok (.iload_n 2, 1) := by decide +kernel
theorem d_Model_merge_137 : decode b_Model_merge 137 = .ok (.iaload, 1) := by decide +kernel
theorem d_Model_merge_138 : decode b_Model_merge 138 = .ok (.if_icmp .ge 32, 3) := by decide +kernel
theorem d_Model_merge_141 : decode b_Model_merge 141 = .ok (.aload_n 0, 1) := by decide +kernel
theorem d_Model_merge_142 : decode b_Model_merge 142 = .ok (.aload_n 0, 1) := by decide +kernel
theorem d_Model_merge_143 : decode b_Model_merge 143 = .ok (.getfield 21, 3) := by decide +kernel
theorem d_Model_merge_146 : decode b_Model_merge 146 = .ok (.iload 6, 2) := by decide +kernel
theorem d_Model_merge_148 : decode b_Model_merge 148 = .ok (.aload_n 0, 1) := by decide +kernel
theorem d_Model_merge_149 : decode b_Model_merge 149 = .ok (.iload_n 2, 1) := by decide +kernel
theorem d_Model_merge_150 : decode b_Model_merge 150 = .ok (.iload 7, 2) := by decide +kernel
theorem d_Model_merge_152 : decode b_Model_merge 152 = .ok (.invokevirtual 98, 3) := by decide +kernel
theorem d_Model_merge_155 : decode b_Model_merge 155 = .ok (.iload_n 3, 1) := by decide +kernel
theorem d_Model_merge_156 : decode b_Model_merge 156 = .ok (.iload 4, 2) := by decide +kernel
theorem d_Model_merge_158 : decode b_Model_merge 158 = .ok (.invokevirtual 129, 3) := by decide +kernel
theorem d_Model_merge_161 : decode b_Model_merge 161 = .ok (.iinc 6 1, 3) := by decide +kernel
theorem d_Model_merge_164 : decode b_Model_merge 164 = .ok (.iinc 7 1, 3) := by decide +kernel
theorem d_Model_merge_167 : decode b_Model_merge 167 = .ok (.goto (-37), 3) := by decide +kernel
theorem d_Model_merge_170 : decode b_Model_merge 170 = .ok (.iconst 0, 1) := by decide +kernel
theorem d_Model_merge_171 : decode b_Model_merge 171 = .ok (.istore 7, 2) := by decide +kernel
theorem d_Model_merge_173 : decode b_Model_merge 173 = .ok (.iload 7, 2) := by decide +kernel
theorem d_Model_merge_175 : decode b_Model_merge 175 = .ok (.iload 6, 2) := by decide +kernel
theorem d_Model_merge_177 : decode b_Model_merge 177 = .ok (.if_icmp .ge 29, 3) := by decide +kernel
theorem d_Model_merge_180 : decode b_Model_merge 180 = .ok (.aload_n 0, 1) := by decide +kernel
theorem d_Model_merge_181 : decode b_Model_merge 181 = .ok (.getfield 13, 3) := by decide +kernel
theorem d_Model_merge_184 : decode b_Model_merge 184 = .ok (.sipush 200, 3) := by decide +kernel
theorem d_Model_merge_187 : decode b_Model_merge 187 = .ok (.iload_n 1, 1) := by decide +kernel
theorem d_Model_merge_188 : decode b_Model_merge 188 = .ok (.imul, 1) := by decide +kernel
theorem d_Model_merge_189 : decode b_Model_merge 189 = .ok (.iload 7, 2) := by decide +kernel
theorem d_Model_merge_191 : decode b_Model_merge 191 = .ok (.iadd, 1) := by decide +kernel
theorem d_Model_merge_192 : decode b_Model_merge 192 = .ok (.aload_n 0, 1) := by decide +kernel
theorem d_Model_merge_193 : decode b_Model_merge 193 = .ok (.getfield 21, 3) := by decide +kernel
theorem d_Model_merge_196 : decode b_Model_merge 196 = .ok (.iload 7, 2) := by decide +kernel
theorem d_Model_merge_198 : decode b_Model_merge 198 = .ok (.saload, 1) := by decide +kernel
theorem d_Model_merge_199 : decode b_Model_merge 199 = .ok (.sastore, 1) := by decide +kernel
theorem d_Model_merge_200 : decode b_Model_merge 200 = .ok (.iinc 7 1, 3) := by decide +kernel
theorem d_Model_merge_203 : decode b_Model_merge 203 = .ok (.goto (-30), 3) := by decide +kernel
theorem d_Model_merge_206 : decode b_Model_merge 206 = .ok (.aload_n 0, 1) := by decide +kernel
theorem d_Model_merge_207 : decode b_Model_merge 207 = .ok (.dup, 1) := by decide +kernel
theorem d_Model_merge_208 : decode b_Model_merge 208 = .ok (.getfield 133, 3) := by decide +kernel
theorem d_Model_merge_211 : decode b_Model_merge 211 = .ok (.aload_n 0, 1) := by decide +kernel
theorem d_Model_merge_212 : decode b_Model_merge 212 = .ok (.getfield 17, 3) := by decide +kernel
theorem d_Model_merge_215 : decode b_Model_merge 215 = .ok (.iload_n 2, 1) := by decide +kernel
theorem d_Model_merge_216 : decode b_Model_merge 216 = .ok (.iaload, 1) := by decide +kernel
theorem d_Model_merge_217 : decode b_Model_merge 217 = .ok (.iadd, 1) := by decide +kernel
theorem d_Model_merge_218 : decode b_Model_merge 218 = .ok (.putfield 133, 3) := by decide +kernel
theorem d_Model_merge_221 : decode b_Model_merge 221 = .ok (.aload_n 0, 1) := by decide +kernel
theorem d_Model_merge_222 : decode b_Model_merge 222 = .ok (.getfield 17, 3) := by decide +kernel
theorem d_Model_merge_225 : decode b_Model_merge 225 = .ok (.iload_n 1, 1) := by decide +kernel
theorem d_Model_merge_226 : decode b_Model_merge 226 = .ok (.iload 6, 2) := by decide +kernel
theorem d_Model_merge_228 : decode b_Model_merge 228 = .ok (.iastore, 1) := by decide +kernel
theorem d_Model_merge_229 : decode b_Model_merge 229 = .ok (.aload_n 0, 1) := by decide +kernel
theorem d_Model_merge_230 : decode b_Model_merge 230 = .ok (.getfield 17, 3) := by decide +kernel
theorem d_Model_merge_233 : decode b_Model_merge 233 = .ok (.iload_n 2, 1) := by decide +kernel
theorem d_Model_merge_234 : decode b_Model_merge 234 = .ok (.iconst 0, 1) := by decide +kernel
theorem d_Model_merge_235 : decode b_Model_merge 235 = .ok (.iastore, 1) := by decide +kernel
theorem d_Model_merge_236 : decode b_Model_merge 236 = .ok (.iload 6, 2) := by decide +kernel
theorem d_Model_merge_238 : decode b_Model_merge 238 = .ok (.ireturn, 1) := by decide +kernel
theorem d_Model_merge : decode b_Model_merge 0 = .ok (.iload_n 1, 1) ∧ decode b_Model_merge 1 = .ok (.invokestatic 65, 3) ∧ decode b_Model_merge 4 = .ok (.ifCond .eq 28, 3) ∧ decode b_Model_merge 7 = .ok (.iload_n 2, 1) ∧ decode b_Model_merge 8 = .ok (.invokestatic 65, 3) ∧ decode b_Model_merge 11 = .ok (.ifCond .eq 21, 3) ∧ decode b_Model_merge 14 = .ok (.iload_n 1, 1) ∧ decode b_Model_merge 15 = .ok (.iload_n 2, 1) ∧ decode b_Model_merge 16 = .ok (.if_icmp .eq 16, 3) ∧ decode b_Model_merge 19 = .ok (.iload_n 3, 1) ∧ decode b_Model_merge 20 = .ok (.iload 4, 2) ∧ decode b_Model_merge 22 = .ok (.invokestatic 121, 3) ∧ decode b_Model_merge 25 = .ok (.ifCond .eq 7, 3) ∧ decode b_Model_merge 28 = .ok (.iconst 1, 1) ∧ decode b_Model_merge 29 = .ok (.goto 4, 3) ∧ decode b_Model_merge 32 = .ok (.iconst 0, 1) ∧ decode b_Model_merge 33 = .ok (.istore 5, 2) ∧ decode b_Model_merge 35 = .ok (.aload_n 0, 1) ∧ decode b_Model_merge 36 = .ok (.iload 5, 2) ∧ decode b_Model_merge 38 = .ok (.ifCond .ne 7, 3) ∧ decode b_Model_merge 41 = .ok (.iconst 1, 1) ∧ decode b_Model_merge 42 = .ok (.goto 30, 3) ∧ decode b_Model_merge 45 = .ok (.aload_n 0, 1) ∧ decode b_Model_merge 46 = .ok (.iload_n 1, 1) ∧ decode b_Model_merge 47 = .ok (.iload_n 3, 1) ∧ decode b_Model_merge 48 = .ok (.iload 4, 2) ∧ decode b_Model_merge 50 = .ok (.invokevirtual 125, 3) ∧ decode b_Model_merge 53 = .ok (.ifCond .eq 14, 3) ∧ decode b_Model_merge 56 = .ok (.aload_n 0, 1) ∧ decode b_Model_merge 57 = .ok (.iload_n 2, 1) ∧ decode b_Model_merge 58 = .ok (.iload_n 3, 1) ∧ decode b_Model_merge 59 = .ok (.iload 4, 2) ∧ decode b_Model_merge 61 = .ok (.invokevirtual 125, 3) ∧ decode b_Model_merge 64 = .ok (.ifCond .ne 7, 3) ∧ decode b_Model_merge 67 = .ok (.iconst 2, 1) ∧ decode b_Model_merge 68 = .ok (.goto 4, 3) ∧ decode b_Model_merge 71 = .ok (.iconst 0, 1) ∧ decode b_Model_merge 72 = .ok (.putfield 52, 3) ∧ decode b_Model_merge 75 = .ok (.aload_n 0, 1) ∧ decode b_Model_merge 76 = .ok (.getfield 52, 3) ∧ decode b_Model_merge 79 = .ok (.ifCond .le 5, 3) ∧ decode b_Model_merge 82 = .ok (.iconst 0, 1) ∧ decode b_Model_merge 83 = .ok (.ireturn, 1) ∧ decode b_Model_merge 84 = .ok (.iconst 0, 1) ∧ decode b_Model_merge 85 = .ok (.istore 6, 2) ∧ decode b_Model_merge 87 = .ok (.iload 6, 2) ∧ decode b_Model_merge 89 = .ok (.aload_n 0, 1) ∧ decode b_Model_merge 90 = .ok (.getfield 17, 3) ∧ decode b_Model_merge 93 = .ok (.iload_n 1, 1) ∧ decode b_Model_merge 94 = .ok (.iaload, 1) ∧ decode b_Model_merge 95 = .ok (.if_icmp .ge 24, 3) ∧ decode b_Model_merge 98 = .ok (.aload_n 0, 1) ∧ decode b_Model_merge 99 = .ok (.getfield 21, 3) ∧ decode b_Model_merge 102 = .ok (.iload 6, 2) ∧ decode b_Model_merge 104 = .ok (.aload_n 0, 1) ∧ decode b_Model_merge 105 = .ok (.iload_n 1, 1) ∧ decode b_Model_merge 106 = .ok (.iload 6, 2) ∧ decode b_Model_merge 108 = .ok (.invokevirtual 98, 3) ∧ decode b_Model_merge 111 = .ok (.i2s, 1) ∧ decode b_Model_merge 112 = .ok (.sastore, 1) ∧ decode b_Model_merge 113 = .ok (.iinc 6 1, 3) ∧ decode b_Model_merge 116 = .ok (.goto (-29), 3) ∧ decode b_Model_merge 119 = .ok (.aload_n 0, 1) ∧ decode b_Model_merge 120 = .ok (.getfield 17, 3) ∧ decode b_Model_merge 123 = .ok (.iload_n 1, 1) ∧ decode b_Model_merge 124 = .ok (.iaload, 1) ∧ decode b_Model_merge 125 = .ok (.istore 6, 2) ∧ decode b_Model_merge 127 = .ok (.iconst 0, 1) ∧ decode b_Model_merge 128 = .ok (.istore 7, 2) ∧ decode b_Model_merge 130 = .ok (.iload 7, 2) ∧ decode b_Model_merge 132 = .ok (.aload_n 0, 1) ∧ decode b_Model_merge 133 = .ok (.getfield 17, 3) ∧ decode b_Model_merge 136 = .ok (.iload_n 2, 1) ∧ decode b_Model_merge 137 = .ok (.iaload, 1) ∧ decode b_Model_merge 138 = .ok (.if_icmp .ge 32, 3) ∧ decode b_Model_merge 141 = .ok (.aload_n 0, 1) ∧ decode b_Model_merge 142 = .ok (.aload_n 0, 1) ∧ decode b_Model_merge 143 = .ok (.getfield 21, 3) ∧ decode b_Model_merge 146 = .ok (.iload 6, 2) ∧ decode b_Model_merge 148 = .ok (.aload_n 0, 1) ∧ decode b_Model_merge 149 = .ok (.iload_n 2, 1) ∧ decode b_Model_merge 150 = .ok (.iload 7, 2) ∧ decode b_Model_merge 152 = .ok (.invokevirtual 98, 3) ∧ decode b_Model_merge 155 = .ok (.iload_n 3, 1) ∧ decode b_Model_merge 156 = .ok (.iload 4, 2) ∧ decode b_Model_merge 158 = .ok (.invokevirtual 129, 3) ∧ decode b_Model_merge 161 = .ok (.iinc 6 1, 3) ∧ decode b_Model_merge 164 = .ok (.iinc 7 1, 3) ∧ decode b_Model_merge 167 = .ok (.goto (-37), 3) ∧ decode b_Model_merge 170 = .ok (.iconst 0, 1) ∧ decode b_Model_merge 171 = .ok (.istore 7, 2) ∧ decode b_Model_merge 173 = .ok (.iload 7, 2) ∧ decode b_Model_merge 175 = .ok (.iload 6, 2) ∧ decode b_Model_merge 177 = .ok (.if_icmp .ge 29, 3) ∧ decode b_Model_merge 180 = .ok (.aload_n 0, 1) ∧ decode b_Model_merge 181 = .ok (.getfield 13, 3) ∧ decode b_Model_merge 184 = .ok (.sipush 200, 3) ∧ decode b_Model_merge 187 = .ok (.iload_n 1, 1) ∧ decode b_Model_merge 188 = .ok (.imul, 1) ∧ decode b_Model_merge 189 = .ok (.iload 7, 2) ∧ decode b_Model_merge 191 = .ok (.iadd, 1) ∧ decode b_Model_merge 192 = .ok (.aload_n 0, 1) ∧ decode b_Model_merge 193 = .ok (.getfield 21, 3) ∧ decode b_Model_merge 196 = .ok (.iload 7, 2) ∧ decode b_Model_merge 198 = .ok (.saload, 1) ∧ decode b_Model_merge 199 = .ok (.sastore, 1) ∧ decode b_Model_merge 200 = .ok (.iinc 7 1, 3) ∧ decode b_Model_merge 203 = .ok (.goto (-30), 3) ∧ decode b_Model_merge 206 = .ok (.aload_n 0, 1) ∧ decode b_Model_merge 207 = .ok (.dup, 1) ∧ decode b_Model_merge 208 = .ok (.getfield 133, 3) ∧ decode b_Model_merge 211 = .ok (.aload_n 0, 1) ∧ decode b_Model_merge 212 = .ok (.getfield 17, 3) ∧ decode b_Model_merge 215 = .ok (.iload_n 2, 1) ∧ decode b_Model_merge 216 = .ok (.iaload, 1) ∧ decode b_Model_merge 217 = .ok (.iadd, 1) ∧ decode b_Model_merge 218 = .ok (.putfield 133, 3) ∧ decode b_Model_merge 221 = .ok (.aload_n 0, 1) ∧ decode b_Model_merge 222 = .ok (.getfield 17, 3) ∧ decode b_Model_merge 225 = .ok (.iload_n 1, 1) ∧ decode b_Model_merge 226 = .ok (.iload 6, 2) ∧ decode b_Model_merge 228 = .ok (.iastore, 1) ∧ decode b_Model_merge 229 = .ok (.aload_n 0, 1) ∧ decode b_Model_merge 230 = .ok (.getfield 17, 3) ∧ decode b_Model_merge 233 = .ok (.iload_n 2, 1) ∧ decode b_Model_merge 234 = .ok (.iconst 0, 1) ∧ decode b_Model_merge 235 = .ok (.iastore, 1) ∧ decode b_Model_merge 236 = .ok (.iload 6, 2) ∧ decode b_Model_merge 238 = .ok (.ireturn, 1) := ⟨d_Model_merge_0, d_Model_merge_1, d_Model_merge_4, d_Model_merge_7, d_Model_merge_8, d_Model_merge_11, d_Model_merge_14, d_Model_merge_15, d_Model_merge_16, d_Model_merge_19, d_Model_merge_20, d_Model_merge_22, d_Model_merge_25, d_Model_merge_28, d_Model_merge_29, d_Model_merge_32, d_Model_merge_33, d_Model_merge_35, d_Model_merge_36, d_Model_merge_38, d_Model_merge_41, d_Model_merge_42, d_Model_merge_45, d_Model_merge_46, d_Model_merge_47, d_Model_merge_48, d_Model_merge_50, d_Model_merge_53, d_Model_merge_56, d_Model_merge_57, d_Model_merge_58, d_Model_merge_59, d_Model_merge_61, d_Model_merge_64, d_Model_merge_67, d_Model_merge_68, d_Model_merge_71, d_Model_merge_72, d_Model_merge_75, d_Model_merge_76, d_Model_merge_79, d_Model_merge_82, d_Model_merge_83, d_Model_merge_84, d_Model_merge_85, d_Model_merge_87, d_Model_merge_89, d_Model_merge_90, d_Model_merge_93, d_Model_merge_94, d_Model_merge_95, d_Model_merge_98, d_Model_merge_99, d_Model_merge_102, d_Model_merge_104, d_Model_merge_105, d_Model_merge_106, d_Model_merge_108, d_Model_merge_111, d_Model_merge_112, d_Model_merge_113, d_Model_merge_116, d_Model_merge_119, d_Model_merge_120, d_Model_merge_123, d_Model_merge_124, d_Model_merge_125, d_Model_merge_127, d_Model_merge_128, d_Model_merge_130, d_Model_merge_132, d_Model_merge_133, d_Model_merge_136, d_Model_merge_137, d_Model_merge_138, d_Model_merge_141, d_Model_merge_142, d_Model_merge_143, d_Model_merge_146, d_Model_merge_148, d_Model_merge_149, d_Model_merge_150, d_Model_merge_152, d_Model_merge_155, d_Model_merge_156, d_Model_merge_158, d_Model_merge_161, d_Model_merge_164, d_Model_merge_167, d_Model_merge_170, d_Model_merge_171, d_Model_merge_173, d_Model_merge_175, d_Model_merge_177, d_Model_merge_180, d_Model_merge_181, d_Model_merge_184, d_Model_merge_187, d_Model_merge_188, d_Model_merge_189, d_Model_merge_191, d_Model_merge_192, d_Model_merge_193, d_Model_merge_196, d_Model_merge_198, d_Model_merge_199, d_Model_merge_200, d_Model_merge_203, d_Model_merge_206, d_Model_merge_207, d_Model_merge_208, d_Model_merge_211, d_Model_merge_212, d_Model_merge_215, d_Model_merge_216, d_Model_merge_217, d_Model_merge_218, d_Model_merge_221, d_Model_merge_222, d_Model_merge_225, d_Model_merge_226, d_Model_merge_228, d_Model_merge_229, d_Model_merge_230, d_Model_merge_233, d_Model_merge_234, d_Model_merge_235, d_Model_merge_236, d_Model_merge_238⟩
theorem v_Model_merge : Cond.instanceMethod y_Model_merge ∈ nm_Ts ∧ Cond.selects y_Model_merge.cls y_Model_merge y_Model_merge ∈ nm_Ts ∧ Cond.initialized y_Model_merge.cls ∈ nm_Ts ∧ Cond.code y_Model_merge b_Model_merge 8 (some .int) ∈ nm_Ts ∧ mz_cl1 y_Model_merge 4 := ⟨nm_t4 238 rfl rfl, nm_t4 239 rfl rfl, nm_t1 12 rfl rfl, nm_t5 0 rfl rfl, by decide +kernel⟩
def y_Model_match : MethodName := ⟨"CardOfficeModel", "match", "(IIIII)I"⟩
abbrev b_Model_match : ByteArray := prog_14_method_34_code
def r_Model_match (c s : Nat) : Room := { frames := 5, cells := c, slots := s, locals := 118 }
theorem d_Model_match_0 : decode b_Model_match 0 = .ok (.iload_n 1, 1) := by decide +kernel
theorem d_Model_match_1 : decode b_Model_match 1 = .ok (.invokestatic 65, 3) := by decide +kernel
theorem d_Model_match_4 : decode b_Model_match 4 = .ok (.ifCond .eq 46, 3) := by decide +kernel
theorem d_Model_match_7 : decode b_Model_match 7 = .ok (.iload_n 2, 1) := by decide +kernel
theorem d_Model_match_8 : decode b_Model_match 8 = .ok (.invokestatic 65, 3) := by decide +kernel
theorem d_Model_match_11 : decode b_Model_match 11 = .ok (.ifCond .eq 39, 3) := by decide +kernel
theorem d_Model_match_14 : decode b_Model_match 14 = .ok (.iload_n 3, 1) := by decide +kernel
theorem d_Model_match_15 : decode b_Model_match 15 = .ok (.invokestatic 65, 3) := by decide +kernel
theorem d_Model_match_18 : decode b_Model_match 18 = .ok (.ifCond .eq 32, 3) := by decide +kernel
theorem d_Model_match_21 : decode b_Model_match 21 = .ok (.iload_n 1, 1) := by decide +kernel
theorem d_Model_match_22 : decode b_Model_match 22 = .ok (.iload_n 2, 1) := by decide +kernel
theorem d_Model_match_23 : decode b_Model_match 23 = .ok (.if_icmp .eq 27, 3) := by decide +kernel
theorem d_Model_match_26 : decode b_Model_match 26 = .ok (.iload_n 1, 1) := by decide +kernel
theorem d_Model_match_27 : decode b_Model_match 27 = .ok (.iload_n 3, 1) := by decide +kernel
theorem d_Model_match_28 : decode b_Model_match 28 = .ok (.if_icmp .eq 22, 3) := by decide +kernel
theorem d_Model_match_31 : decode b_Model_match 31 = .ok (.iload_n 2, 1) := by decide +kernel
theorem d_Model_match_32 : decode b_Model_match 32 = .ok (.iload_n 3, 1) := by decide +kernel
theorem d_Model_match_33 : decode b_Model_match 33 = .ok (.if_icmp .eq 17, 3) := by decide +kernel
theorem d_Model_match_36 : decode b_Model_match 36 = .ok (.iload 4, 2) := by decide +kernel
theorem d_Model_match_38 : decode b_Model_match 38 = .ok (.iload 5, 2) := by decide +kernel
theorem d_Model_match_40 : decode b_Model_match 40 = .ok (.invokestatic 121, 3) := by decide +kernel
theorem d_Model_match_43 : decode b_Model_match 43 = .ok (.ifCond .eq 7, 3) := by decide +kernel
theorem d_Model_match_46 : decode b_Model_match 46 = .ok (.iconst 1, 1) := by decide +kernel
theorem d_Model_match_47 : decode b_Model_match 47 = .ok (.goto 4, 3) := by decide +kernel
theorem d_Model_match_50 : decode b_Model_match 50 = .ok (.iconst 0, 1) := by decide +kernel
theorem d_Model_match_51 : decode b_Model_match 51 = .ok (.istore 6, 2) := by decide +kernel
theorem d_Model_match_53 : decode b_Model_match 53 = .ok (.aload_n 0, 1) := by decide +kernel
theorem d_Model_match_54 : decode b_Model_match 54 = .ok (.iload 6, 2) := by decide +kernel
theorem d_Model_match_56 : decode b_Model_match 56 = .ok (.ifCond .ne 7, 3) := by decide +kernel
theorem d_Model_match_59 : decode b_Model_match 59 = .ok (.iconst 1, 1) := by decide +kernel
theorem d_Model_match_60 : decode b_Model_match 60 = .ok (.goto 32, 3) := by decide +kernel
theorem d_Model_match_63 : decode b_Model_match 63 = .ok (.aload_n 0, 1) := by decide +kernel
theorem d_Model_match_64 : decode b_Model_match 64 = .ok (.iload_n 1, 1) := by decide +kernel
theorem d_Model_match_65 : decode b_Model_match 65 = .ok (.iload 4, 2) := by decide +kernel
theorem d_Model_match_67 : decode b_Model_match 67 = .ok (.iload 5, 2) := by decide +kernel
theorem d_Model_match_69 : decode b_Model_match 69 = .ok (.invokevirtual 125, 3) := by decide +kernel
theorem d_Model_match_72 : decode b_Model_match 72 = .ok (.ifCond .eq 15, 3) := by decide +kernel
theorem d_Model_match_75 : decode b_Model_match 75 = .ok (.aload_n 0, 1) := by decide +kernel
theorem d_Model_match_76 : decode b_Model_match 76 = .ok (.iload_n 2, 1) := by decide +kernel
theorem d_Model_match_77 : decode b_Model_match 77 = .ok (.iload 4, 2) := by decide +kernel
theorem d_Model_match_79 : decode b_Model_match 79 = .ok (.iload 5, 2) := by decide +kernel
theorem d_Model_match_81 : decode b_Model_match 81 = .ok (.invokevirtual 125, 3) := by decide +kernel
theorem d_Model_match_84 : decode b_Model_match 84 = .ok (.ifCond .ne 7, 3) := by decide +kernel
theorem d_Model_match_87 : decode b_Model_match 87 = .ok (.iconst 2, 1) := by decide +kernel
theorem d_Model_match_88 : decode b_Model_match 88 = .ok (.goto 4, 3) := by decide +kernel
theorem d_Model_match_91 : decode b_Model_match 91 = .ok (.iconst 0, 1) := by decide +kernel
theorem d_Model_match_92 : decode b_Model_match 92 = .ok (.putfield 52, 3) := by decide +kernel
theorem d_Model_match_95 : decode b_Model_match 95 = .ok (.aload_n 0, 1) := by decide +kernel
theorem d_Model_match_96 : decode b_Model_match 96 = .ok (.getfield 52, 3) := by decide +kernel
theorem d_Model_match_99 : decode b_Model_match 99 = .ok (.ifCond .le 5, 3) := by decide +kernel
theorem d_Model_match_102 : decode b_Model_match 102 = .ok (.iconst 0, 1) := by decide +kernel
theorem d_Model_match_103 : decode b_Model_match 103 = .ok (.ireturn, 1) := by decide +kernel
theorem d_Model_match_104 : decode b_Model_match 104 = .ok (.aload_n 0, 1) := by decide +kernel
theorem d_Model_match_105 : decode b_Model_match 105 = .ok (.iload_n 1, 1) := by decide +kernel
theorem d_Model_match_106 : decode b_Model_match 106 = .ok (.iload_n 2, 1) := by decide +kernel
theorem d_Model_match_107 : decode b_Model_match 107 = .ok (.iload 4, 2) := by decide +kernel
theorem d_Model_match_109 : decode b_Model_match 109 = .ok (.iload 5, 2) := by decide +kernel
theorem d_Model_match_111 : decode b_Model_match 111 = .ok (.iconst 0, 1) := by decide +kernel
theorem d_Model_match_112 : decode b_Model_match 112 = .ok (.invokevirtual 140, 3) := by decide +kernel
theorem d_Model_match_115 : decode b_Model_match 115 = .ok (.istore 7, 2) := by decide +kernel
theorem d_Model_match_117 : decode b_Model_match 117 = .ok (.aload_n 0, 1) := by decide +kernel
theorem d_Model_match_118 : decode b_Model_match 118 = .ok (.iload_n 2, 1) := by decide +kernel
theorem d_Model_match_119 : decode b_Model_match 119 = .ok (.iload_n 1, 1) := by decide +kernel
theorem d_Model_match_120 : decode b_Model_match 120 = .ok (.iload 4, 2) := by decide +kernel
theorem d_Model_match_122 : decode b_Model_match 122 = .ok (.iload 5, 2) := by decide +kernel
theorem d_Model_match_124 : decode b_Model_match 124 = .ok (.iload 7, 2) := by decide +kernel
theorem d_Model_match_126 : decode b_Model_match 126 = .ok (.invokevirtual 140, 3) := by decide +kernel
theorem d_Model_match_129 : decode b_Model_match 129 = .ok (.istore 7, 2) := by decide +kernel
theorem d_Model_match_131 : decode b_Model_match 131 = .ok (.aload_n 0, 1) := by decide +kernel
theorem d_Model_match_132 : decode b_Model_match 132 = .ok (.iload_n 1, 1) := by decide +kernel
theorem d_Model_match_133 : decode b_Model_match 133 = .ok (.iload 7, 2) := by decide +kernel
theorem d_Model_match_135 : decode b_Model_match 135 = .ok (.iload 4, 2) := by decide +kernel
theorem d_Model_match_137 : decode b_Model_match 137 = .ok (.iload 5, 2) := by decide +kernel
theorem d_Model_match_139 : decode b_Model_match 139 = .ok (.invokevirtual 144, 3) := by decide +kernel
theorem d_Model_match_142 : decode b_Model_match 142 = .ok (.aload_n 0, 1) := by decide +kernel
theorem d_Model_match_143 : decode b_Model_match 143 = .ok (.iload_n 2, 1) := by decide +kernel
theorem d_Model_match_144 : decode b_Model_match 144 = .ok (.iload 7, 2) := by decide +kernel
theorem d_Model_match_146 : decode b_Model_match 146 = .ok (.iload 4, 2) := by decide +kernel
theorem d_Model_match_148 : decode b_Model_match 148 = .ok (.iload 5, 2) := by decide +kernel
theorem d_Model_match_150 : decode b_Model_match 150 = .ok (.invokevirtual 144, 3) := by decide +kernel
theorem d_Model_match_153 : decode b_Model_match 153 = .ok (.iconst 0, 1) := by decide +kernel
theorem d_Model_match_154 : decode b_Model_match 154 = .ok (.istore 8, 2) := by decide +kernel
theorem d_Model_match_156 : decode b_Model_match 156 = .ok (.iload 8, 2) := by decide +kernel
theorem d_Model_match_158 : decode b_Model_match 158 = .ok (.iload 7, 2) := by decide +kernel
theorem d_Model_match_160 : decode b_Model_match 160 = .ok (.if_icmp .ge 21, 3) := by decide +kernel
theorem d_Model_match_163 : decode b_Model_match 163 = .ok (.aload_n 0, 1) := by decide +kernel
theorem d_Model_match_164 : decode b_Model_match 164 = .ok (.iload_n 3, 1) := by decide +kernel
theorem d_Model_match_165 : decode b_Model_match 165 = .ok (.aload_n 0, 1) := by decide +kernel
theorem d_Model_match_166 : decode b_Model_match 166 = .ok (.getfield 21, 3) := by decide +kernel
theorem d_Model_match_169 : decode b_Model_match 169 = .ok (.iload 8, 2) := by decide +kernel
theorem d_Model_match_171 : decode b_Model_match 171 = .ok (.saload, 1) := by decide +kernel
theorem d_Model_match_172 : decode b_Model_match 172 = .ok (.invokevirtual 78, 3) := by decide +kernel
theorem d_Model_match_175 : decode b_Model_match 175 = .ok (.iinc 8 1, 3) := by decide +kernel
theorem d_Model_match_178 : decode b_Model_match 178 = .ok (.goto (-22), 3) := by decide +kernel
theorem d_Model_match_181 : decode b_Model_match 181 = .ok (.aload_n 0, 1) := by decide +kernel
theorem d_Model_match_182 : decode b_Model_match 182 = .ok (.dup, 1) := by decide +kernel
theorem d_Model_match_183 : decode b_Model_match 183 = .ok (.getfield 133, 3) := by decide +kernel
theorem d_Model_match_186 : decode b_Model_match 186 = .ok (.iload 7, 2) := by decide +kernel
theorem d_Model_match_188 : decode b_Model_match 188 = .ok (.iadd, 1) := by decide +kernel
theorem d_Model_match_189 : decode b_Model_match 189 = .ok (.putfield 133, 3) := by decide +kernel
theorem d_Model_match_192 : decode b_Model_match 192 = .ok (.iload 7, 2) := by decide +kernel
theorem d_Model_match_194 : decode b_Model_match 194 = .ok (.ireturn, 1) := by decide +kernel
theorem d_Model_match : decode b_Model_match 0 = .ok (.iload_n 1, 1) ∧ decode b_Model_match 1 = .ok (.invokestatic 65, 3) ∧ decode b_Model_match 4 = .ok (.ifCond .eq 46, 3) ∧ decode b_Model_match 7 = .ok (.iload_n 2, 1) ∧ decode b_Model_match 8 = .ok (.invokestatic 65, 3) ∧ decode b_Model_match 11 = .ok (.ifCond .eq 39, 3) ∧ decode b_Model_match 14 = .ok (.iload_n 3, 1) ∧ decode b_Model_match 15 = .ok (.invokestatic 65, 3) ∧ decode b_Model_match 18 = .ok (.ifCond .eq 32, 3) ∧ decode b_Model_match 21 = .ok (.iload_n 1, 1) ∧ decode b_Model_match 22 = .ok (.iload_n 2, 1) ∧ decode b_Model_match 23 = .ok (.if_icmp .eq 27, 3) ∧ decode b_Model_match 26 = .ok (.iload_n 1, 1) ∧ decode b_Model_match 27 = .ok (.iload_n 3, 1) ∧ decode b_Model_match 28 = .ok (.if_icmp .eq 22, 3) ∧ decode b_Model_match 31 = .ok (.iload_n 2, 1) ∧ decode b_Model_match 32 = .ok (.iload_n 3, 1) ∧ decode b_Model_match 33 = .ok (.if_icmp .eq 17, 3) ∧ decode b_Model_match 36 = .ok (.iload 4, 2) ∧ decode b_Model_match 38 = .ok (.iload 5, 2) ∧ decode b_Model_match 40 = .ok (.invokestatic 121, 3) ∧ decode b_Model_match 43 = .ok (.ifCond .eq 7, 3) ∧ decode b_Model_match 46 = .ok (.iconst 1, 1) ∧ decode b_Model_match 47 = .ok (.goto 4, 3) ∧ decode b_Model_match 50 = .ok (.iconst 0, 1) ∧ decode b_Model_match 51 = .ok (.istore 6, 2) ∧ decode b_Model_match 53 = .ok (.aload_n 0, 1) ∧ decode b_Model_match 54 = .ok (.iload 6, 2) ∧ decode b_Model_match 56 = .ok (.ifCond .ne 7, 3) ∧ decode b_Model_match 59 = .ok (.iconst 1, 1) ∧ decode b_Model_match 60 = .ok (.goto 32, 3) ∧ decode b_Model_match 63 = .ok (.aload_n 0, 1) ∧ decode b_Model_match 64 = .ok (.iload_n 1, 1) ∧ decode b_Model_match 65 = .ok (.iload 4, 2) ∧ decode b_Model_match 67 = .ok (.iload 5, 2) ∧ decode b_Model_match 69 = .ok (.invokevirtual 125, 3) ∧ decode b_Model_match 72 = .ok (.ifCond .eq 15, 3) ∧ decode b_Model_match 75 = .ok (.aload_n 0, 1) ∧ decode b_Model_match 76 = .ok (.iload_n 2, 1) ∧ decode b_Model_match 77 = .ok (.iload 4, 2) ∧ decode b_Model_match 79 = .ok (.iload 5, 2) ∧ decode b_Model_match 81 = .ok (.invokevirtual 125, 3) ∧ decode b_Model_match 84 = .ok (.ifCond .ne 7, 3) ∧ decode b_Model_match 87 = .ok (.iconst 2, 1) ∧ decode b_Model_match 88 = .ok (.goto 4, 3) ∧ decode b_Model_match 91 = .ok (.iconst 0, 1) ∧ decode b_Model_match 92 = .ok (.putfield 52, 3) ∧ decode b_Model_match 95 = .ok (.aload_n 0, 1) ∧ decode b_Model_match 96 = .ok (.getfield 52, 3) ∧ decode b_Model_match 99 = .ok (.ifCond .le 5, 3) ∧ decode b_Model_match 102 = .ok (.iconst 0, 1) ∧ decode b_Model_match 103 = .ok (.ireturn, 1) ∧ decode b_Model_match 104 = .ok (.aload_n 0, 1) ∧ decode b_Model_match 105 = .ok (.iload_n 1, 1) ∧ decode b_Model_match 106 = .ok (.iload_n 2, 1) ∧ decode b_Model_match 107 = .ok (.iload 4, 2) ∧ decode b_Model_match 109 = .ok (.iload 5, 2) ∧ decode b_Model_match 111 = .ok (.iconst 0, 1) ∧ decode b_Model_match 112 = .ok (.invokevirtual 140, 3) ∧ decode b_Model_match 115 = .ok (.istore 7, 2) ∧ decode b_Model_match 117 = .ok (.aload_n 0, 1) ∧ decode b_Model_match 118 = .ok (.iload_n 2, 1) ∧ decode b_Model_match 119 = .ok (.iload_n 1, 1) ∧ decode b_Model_match 120 = .ok (.iload 4, 2) ∧ decode b_Model_match 122 = .ok (.iload 5, 2) ∧ decode b_Model_match 124 = .ok (.iload 7, 2) ∧ decode b_Model_match 126 = .ok (.invokevirtual 140, 3) ∧ decode b_Model_match 129 = .ok (.istore 7, 2) ∧ decode b_Model_match 131 = .ok (.aload_n 0, 1) ∧ decode b_Model_match 132 = .ok (.iload_n 1, 1) ∧ decode b_Model_match 133 = .ok (.iload 7, 2) ∧ decode b_Model_match 135 = .ok (.iload 4, 2) ∧ decode b_Model_match 137 = .ok (.iload 5, 2) ∧ decode b_Model_match 139 = .ok (.invokevirtual 144, 3) ∧ decode b_Model_match 142 = .ok (.aload_n 0, 1) ∧ decode b_Model_match 143 = .ok (.iload_n 2, 1) ∧ decode b_Model_match 144 = .ok (.iload 7, 2) ∧ decode b_Model_match 146 = .ok (.iload 4, 2) ∧ decode b_Model_match 148 = .ok (.iload 5, 2) ∧ decode b_Model_match 150 = .ok (.invokevirtual 144, 3) ∧ decode b_Model_match 153 = .ok (.iconst 0, 1) ∧ decode b_Model_match 154 = .ok (.istore 8, 2) ∧ decode b_Model_match 156 = .ok (.iload 8, 2) ∧ decode b_Model_match 158 = .ok (.iload 7, 2) ∧ decode b_Model_match 160 = .ok (.if_icmp .ge 21, 3) ∧ decode b_Model_match 163 = .ok (.aload_n 0, 1) ∧ decode b_Model_match 164 = .ok (.iload_n 3, 1) ∧ decode b_Model_match 165 = .ok (.aload_n 0, 1) ∧ decode b_Model_match 166 = .ok (.getfield 21, 3) ∧ decode b_Model_match 169 = .ok (.iload 8, 2) ∧ decode b_Model_match 171 = .ok (.saload, 1) ∧ decode b_Model_match 172 = .ok (.invokevirtual 78, 3) ∧ decode b_Model_match 175 = .ok (.iinc 8 1, 3) ∧ decode b_Model_match 178 = .ok (.goto (-22), 3) ∧ decode b_Model_match 181 = .ok (.aload_n 0, 1) ∧ decode b_Model_match 182 = .ok (.dup, 1) ∧ decode b_Model_match 183 = .ok (.getfield 133, 3) ∧ decode b_Model_match 186 = .ok (.iload 7, 2) ∧ decode b_Model_match 188 = .ok (.iadd, 1) ∧ decode b_Model_match 189 = .ok (.putfield 133, 3) ∧ decode b_Model_match 192 = .ok (.iload 7, 2) ∧ decode b_Model_match 194 = .ok (.ireturn, 1) := ⟨d_Model_match_0, d_Model_match_1, d_Model_match_4, d_Model_match_7, d_Model_match_8, d_Model_match_11, d_Model_match_14, d_Model_match_15, d_Model_match_18, d_Model_match_21, d_Model_match_22, d_Model_match_23, d_Model_match_26, d_Model_match_27, d_Model_match_28, d_Model_match_31, d_Model_match_32, d_Model_match_33, d_Model_match_36, d_Model_match_38, d_Model_match_40, d_Model_match_43, d_Model_match_46, d_Model_match_47, d_Model_match_50, d_Model_match_51, d_Model_match_53, d_Model_match_54, d_Model_match_56, d_Model_match_59, d_Model_match_60, d_Model_match_63, d_Model_match_64, d_Model_match_65, d_Model_match_67, d_Model_match_69, d_Model_match_72, d_Model_match_75, d_Model_match_76, d_Model_match_77, d_Model_match_79, d_Model_match_81, d_Model_match_84, d_Model_match_87, d_Model_match_88, d_Model_match_91, d_Model_match_92, d_Model_match_95, d_Model_match_96, d_Model_match_99, d_Model_match_102, d_Model_match_103, d_Model_match_104, d_Model_match_105, d_Model_match_106, d_Model_match_107, d_Model_match_109, d_Model_match_111, d_Model_match_112, d_Model_match_115, d_Model_match_117, d_Model_match_118, d_Model_match_119, d_Model_match_120, d_Model_match_122, d_Model_match_124, d_Model_match_126, d_Model_match_129, d_Model_match_131, d_Model_match_132, d_Model_match_133, d_Model_match_135, d_Model_match_137, d_Model_match_139, d_Model_match_142, d_Model_match_143, d_Model_match_144, d_Model_match_146, d_Model_match_148, d_Model_match_150, d_Model_match_153, d_Model_match_154, d_Model_match_156, d_Model_match_158, d_Model_match_160, d_Model_match_163, d_Model_match_164, d_Model_match_165, d_Model_match_166, d_Model_match_169, d_Model_match_171, d_Model_match_172, d_Model_match_175, d_Model_match_178, d_Model_match_181, d_Model_match_182, d_Model_match_183, d_Model_match_186, d_Model_match_188, d_Model_match_189, d_Model_match_192, d_Model_match_194⟩
theorem v_Model_match : Cond.instanceMethod y_Model_match ∈ nm_Ts ∧ Cond.selects y_Model_match.cls y_Model_match y_Model_match ∈ nm_Ts ∧ Cond.initialized y_Model_match.cls ∈ nm_Ts ∧ Cond.code y_Model_match b_Model_match 9 (some .int) ∈ nm_Ts ∧ mz_cl1 y_Model_match 5 := ⟨nm_t5 2 rfl rfl, nm_t5 3 rfl rfl, nm_t1 12 rfl rfl, nm_t5 4 rfl rfl, by decide +kernel⟩
def y_Model_take : MethodName := ⟨"CardOfficeModel", "take", "(IIIII)I"⟩
abbrev b_Model_take : ByteArray := prog_14_method_32_code
def r_Model_take (c s : Nat) : Room := { frames := 4, cells := c, slots := s, locals := 91 }
theorem d_Model_take_0 : decode b_Model_take 0 = .ok (.iload 5, 2) := by decide +kernel
theorem d_Model_take_2 : decode b_Model_take 2 = .ok (.istore 6, 2) := by decide +kernel
theorem d_Model_take_4 : decode b_Model_take 4 = .ok (.iconst 0, 1) := by decide +kernel
theorem d_Model_take_5 : decode b_Model_take 5 = .ok (.istore 7, 2) := by decide +kernel
theorem d_Model_take_7 : decode b_Model_take 7 = .ok (.iload 7, 2) := by decide +kernel
theorem d_Model_take_9 : decode b_Model_take 9 = .ok (.aload_n 0, 1) := by decide +kernel
theorem d_Model_take_10 : decode b_Model_take 10 = .ok (.getfield 17, 3) := by decide +kernel
theorem d_Model_take_13 : decode b_Model_take 13 = .ok (.iload_n 1, 1) := by decide +kernel
theorem d_Model_take_14 : decode b_Model_take 14 = .ok (.iaload, 1) := by decide +kernel
theorem d_Model_take_15 : decode b_Model_take 15 = .ok (.if_icmp .ge 50, 3) := by decide +kernel
theorem d_Model_take_18 : decode b_Model_take 18 = .ok (.aload_n 0, 1) := by decide +kernel
theorem d_Model_take_19 : decode b_Model_take 19 = .ok (.iload_n 2, 1) := by decide +kernel
theorem d_Model_take_20 : decode b_Model_take 20 = .ok (.aload_n 0, 1) := by decide +kernel
theorem d_Model_take_21 : decode b_Model_take 21 = .ok (.iload_n 1, 1) := by decide +kernel
theorem d_Model_take_22 : decode b_Model_take 22 = .ok (.iload 7, 2) := by decide +kernel
theorem d_Model_take_24 : decode b_Model_take 24 = .ok (.invokevirtual 98, 3) := by decide +kernel
theorem d_Model_take_27 : decode b_Model_take 27 = .ok (.iload_n 3, 1) := by decide +kernel
theorem d_Model_take_28 : decode b_Model_take 28 = .ok (.iload 4, 2) := by decide +kernel
theorem d_Model_take_30 : decode b_Model_take 30 = .ok (.invokevirtual 136, 3) := by decide +kernel
theorem d_Model_take_33 : decode b_Model_take 33 = .ok (.ifCond .eq 26, 3) := by decide +kernel
theorem d_Model_take_36 : decode b_Model_take 36 = .ok (.aload_n 0, 1) := by decide +kernel
theorem d_Model_take_37 : decode b_Model_take 37 = .ok (.aload_n 0, 1) := by decide +kernel
theorem d_Model_take_38 : decode b_Model_take 38 = .ok (.getfield 21, 3) := by decide +kernel
theorem d_Model_take_41 : decode b_Model_take 41 = .ok (.iload 6, 2) := by decide +kernel
theorem d_Model_take_43 : decode b_Model_take 43 = .ok (.aload_n 0, 1) := by decide +kernel
theorem d_Model_take_44 : decode b_Model_take 44 = .ok (.iload_n 1, 1) := by decide +kernel
theorem d_Model_take_45 : decode b_Model_take 45 = .ok (.iload 7, 2) := by decide +kernel
theorem d_Model_take_47 : decode b_Model_take 47 = .ok (.invokevirtual 98, 3) := by decide +kernel
theorem d_Model_take_50 : decode b_Model_take 50 = .ok (.iload_n 3, 1) := by decide +kernel
theorem d_Model_take_51 : decode b_Model_take 51 = .ok (.iload 4, 2) := by decide +kernel
theorem d_Model_take_53 : decode b_Model_take 53 = .ok (.invokevirtual 129, 3) := by decide +kernel
theorem d_Model_take_56 : decode b_Model_take 56 = .ok (.iinc 6 1, 3) := by decide +kernel
theorem d_Model_take_59 : decode b_Model_take 59 = .ok (.iinc 7 1, 3) := by decide +kernel
theorem d_Model_take_62 : decode b_Model_take 62 = .ok (.goto (-55), 3) := by decide +kernel
theorem d_Model_take_65 : decode b_Model_take 65 = .ok (.iload 6, 2) := by decide +kernel
theorem d_Model_take_67 : decode b_Model_take 67 = .ok (.ireturn, 1) := by decide +kernel
theorem d_Model_take : decode b_Model_take 0 = .ok (.iload 5, 2) ∧ decode b_Model_take 2 = .ok (.istore 6, 2) ∧ decode b_Model_take 4 = .ok (.iconst 0, 1) ∧ decode b_Model_take 5 = .ok (.istore 7, 2) ∧ decode b_Model_take 7 = .ok (.iload 7, 2) ∧ decode b_Model_take 9 = .ok (.aload_n 0, 1) ∧ decode b_Model_take 10 = .ok (.getfield 17, 3) ∧ decode b_Model_take 13 = .ok (.iload_n 1, 1) ∧ decode b_Model_take 14 = .ok (.iaload, 1) ∧ decode b_Model_take 15 = .ok (.if_icmp .ge 50, 3) ∧ decode b_Model_take 18 = .ok (.aload_n 0, 1) ∧ decode b_Model_take 19 = .ok (.iload_n 2, 1) ∧ decode b_Model_take 20 = .ok (.aload_n 0, 1) ∧ decode b_Model_take 21 = .ok (.iload_n 1, 1) ∧ decode b_Model_take 22 = .ok (.iload 7, 2) ∧ decode b_Model_take 24 = .ok (.invokevirtual 98, 3) ∧ decode b_Model_take 27 = .ok (.iload_n 3, 1) ∧ decode b_Model_take 28 = .ok (.iload 4, 2) ∧ decode b_Model_take 30 = .ok (.invokevirtual 136, 3) ∧ decode b_Model_take 33 = .ok (.ifCond .eq 26, 3) ∧ decode b_Model_take 36 = .ok (.aload_n 0, 1) ∧ decode b_Model_take 37 = .ok (.aload_n 0, 1) ∧ decode b_Model_take 38 = .ok (.getfield 21, 3) ∧ decode b_Model_take 41 = .ok (.iload 6, 2) ∧ decode b_Model_take 43 = .ok (.aload_n 0, 1) ∧ decode b_Model_take 44 = .ok (.iload_n 1, 1) ∧ decode b_Model_take 45 = .ok (.iload 7, 2) ∧ decode b_Model_take 47 = .ok (.invokevirtual 98, 3) ∧ decode b_Model_take 50 = .ok (.iload_n 3, 1) ∧ decode b_Model_take 51 = .ok (.iload 4, 2) ∧ decode b_Model_take 53 = .ok (.invokevirtual 129, 3) ∧ decode b_Model_take 56 = .ok (.iinc 6 1, 3) ∧ decode b_Model_take 59 = .ok (.iinc 7 1, 3) ∧ decode b_Model_take 62 = .ok (.goto (-55), 3) ∧ decode b_Model_take 65 = .ok (.iload 6, 2) ∧ decode b_Model_take 67 = .ok (.ireturn, 1) := ⟨d_Model_take_0, d_Model_take_2, d_Model_take_4, d_Model_take_5, d_Model_take_7, d_Model_take_9, d_Model_take_10, d_Model_take_13, d_Model_take_14, d_Model_take_15, d_Model_take_18, d_Model_take_19, d_Model_take_20, d_Model_take_21, d_Model_take_22, d_Model_take_24, d_Model_take_27, d_Model_take_28, d_Model_take_30, d_Model_take_33, d_Model_take_36, d_Model_take_37, d_Model_take_38, d_Model_take_41, d_Model_take_43, d_Model_take_44, d_Model_take_45, d_Model_take_47, d_Model_take_50, d_Model_take_51, d_Model_take_53, d_Model_take_56, d_Model_take_59, d_Model_take_62, d_Model_take_65, d_Model_take_67⟩
theorem v_Model_take : Cond.instanceMethod y_Model_take ∈ nm_Ts ∧ Cond.selects y_Model_take.cls y_Model_take y_Model_take ∈ nm_Ts ∧ Cond.initialized y_Model_take.cls ∈ nm_Ts ∧ Cond.code y_Model_take b_Model_take 8 (some .int) ∈ nm_Ts ∧ mz_cl1 y_Model_take 5 := ⟨nm_t5 7 rfl rfl, nm_s 28 rfl rfl, nm_t1 12 rfl rfl, nm_t5 8 rfl rfl, by decide +kernel⟩
def y_Model_hasKey : MethodName := ⟨"CardOfficeModel", "hasKey", "(IIII)Z"⟩
abbrev b_Model_hasKey : ByteArray := prog_14_method_31_code
def r_Model_hasKey (c s : Nat) : Room := { frames := 3, cells := c, slots := s, locals := 65 }
theorem d_Model_hasKey_0 : decode b_Model_hasKey 0 = .ok (.iconst 0, 1) := by decide +kernel
theorem d_Model_hasKey_1 : decode b_Model_hasKey 1 = .ok (.istore 5, 2) := by decide +kernel
theorem d_Model_hasKey_3 : decode b_Model_hasKey 3 = .ok (.iconst 0, 1) := by decide +kernel
theorem d_Model_hasKey_4 : decode b_Model_hasKey 4 = .ok (.istore 6, 2) := by decide +kernel
theorem d_Model_hasKey_6 : decode b_Model_hasKey 6 = .ok (.iload 6, 2) := by decide +kernel
theorem d_Model_hasKey_8 : decode b_Model_hasKey 8 = .ok (.aload_n 0, 1) := by decide +kernel
theorem d_Model_hasKey_9 : decode b_Model_hasKey 9 = .ok (.getfield 17, 3) := by decide +kernel
theorem d_Model_hasKey_12 : decode b_Model_hasKey 12 = .ok (.iload_n 1, 1) := by decide +kernel
theorem d_Model_hasKey_13 : decode b_Model_hasKey 13 = .ok (.iaload, 1) := by decide +kernel
theorem d_Model_hasKey_14 : decode b_Model_hasKey 14 = .ok (.if_icmp .ge 39, 3) := by decide +kernel
theorem d_Model_hasKey_17 : decode b_Model_hasKey 17 = .ok (.iload 5, 2) := by decide +kernel
theorem d_Model_hasKey_19 : decode b_Model_hasKey 19 = .ok (.ifCond .ne 21, 3) := by decide +kernel
theorem d_Model_hasKey_22 : decode b_Model_hasKey 22 = .ok (.aload_n 0, 1) := by decide +kernel
theorem d_Model_hasKey_23 : decode b_Model_hasKey 23 = .ok (.aload_n 0, 1) := by decide +kernel
theorem d_Model_hasKey_24 : decode b_Model_hasKey 24 = .ok (.iload_n 1, 1) := by decide +kernel
theorem d_Model_hasKey_25 : decode b_Model_hasKey 25 = .ok (.iload 6, 2) := by decide +kernel
theorem d_Model_hasKey_27 : decode b_Model_hasKey 27 = .ok (.invokevirtual 98, 3) := by decide +kernel
theorem d_Model_hasKey_30 : decode b_Model_hasKey 30 = .ok (.iload_n 2, 1) := by decide +kernel
theorem d_Model_hasKey_31 : decode b_Model_hasKey 31 = .ok (.iload_n 3, 1) := by decide +kernel
theorem d_Model_hasKey_32 : decode b_Model_hasKey 32 = .ok (.iload 4, 2) := by decide +kernel
theorem d_Model_hasKey_34 : decode b_Model_hasKey 34 = .ok (.invokevirtual 117, 3) := by decide +kernel
theorem d_Model_hasKey_37 : decode b_Model_hasKey 37 = .ok (.ifCond .ne 7, 3) := by decide +kernel
theorem d_Model_hasKey_40 : decode b_Model_hasKey 40 = .ok (.iconst 1, 1) := by decide +kernel
theorem d_Model_hasKey_41 : decode b_Model_hasKey 41 = .ok (.goto 4, 3) := by decide +kernel
theorem d_Model_hasKey_44 : decode b_Model_hasKey 44 = .ok (.iconst 0, 1) := by decide +kernel
theorem d_Model_hasKey_45 : decode b_Model_hasKey 45 = .ok (.istore 5, 2) := by decide +kernel
theorem d_Model_hasKey_47 : decode b_Model_hasKey 47 = .ok (.iinc 6 1, 3) := by decide +kernel
theorem d_Model_hasKey_50 : decode b_Model_hasKey 50 = .ok (.goto (-44), 3) := by decide +kernel
theorem d_Model_hasKey_53 : decode b_Model_hasKey 53 = .ok (.iload 5, 2) := by decide +kernel
theorem d_Model_hasKey_55 : decode b_Model_hasKey 55 = .ok (.ireturn, 1) := by decide +kernel
theorem d_Model_hasKey : decode b_Model_hasKey 0 = .ok (.iconst 0, 1) ∧ decode b_Model_hasKey 1 = .ok (.istore 5, 2) ∧ decode b_Model_hasKey 3 = .ok (.iconst 0, 1) ∧ decode b_Model_hasKey 4 = .ok (.istore 6, 2) ∧ decode b_Model_hasKey 6 = .ok (.iload 6, 2) ∧ decode b_Model_hasKey 8 = .ok (.aload_n 0, 1) ∧ decode b_Model_hasKey 9 = .ok (.getfield 17, 3) ∧ decode b_Model_hasKey 12 = .ok (.iload_n 1, 1) ∧ decode b_Model_hasKey 13 = .ok (.iaload, 1) ∧ decode b_Model_hasKey 14 = .ok (.if_icmp .ge 39, 3) ∧ decode b_Model_hasKey 17 = .ok (.iload 5, 2) ∧ decode b_Model_hasKey 19 = .ok (.ifCond .ne 21, 3) ∧ decode b_Model_hasKey 22 = .ok (.aload_n 0, 1) ∧ decode b_Model_hasKey 23 = .ok (.aload_n 0, 1) ∧ decode b_Model_hasKey 24 = .ok (.iload_n 1, 1) ∧ decode b_Model_hasKey 25 = .ok (.iload 6, 2) ∧ decode b_Model_hasKey 27 = .ok (.invokevirtual 98, 3) ∧ decode b_Model_hasKey 30 = .ok (.iload_n 2, 1) ∧ decode b_Model_hasKey 31 = .ok (.iload_n 3, 1) ∧ decode b_Model_hasKey 32 = .ok (.iload 4, 2) ∧ decode b_Model_hasKey 34 = .ok (.invokevirtual 117, 3) ∧ decode b_Model_hasKey 37 = .ok (.ifCond .ne 7, 3) ∧ decode b_Model_hasKey 40 = .ok (.iconst 1, 1) ∧ decode b_Model_hasKey 41 = .ok (.goto 4, 3) ∧ decode b_Model_hasKey 44 = .ok (.iconst 0, 1) ∧ decode b_Model_hasKey 45 = .ok (.istore 5, 2) ∧ decode b_Model_hasKey 47 = .ok (.iinc 6 1, 3) ∧ decode b_Model_hasKey 50 = .ok (.goto (-44), 3) ∧ decode b_Model_hasKey 53 = .ok (.iload 5, 2) ∧ decode b_Model_hasKey 55 = .ok (.ireturn, 1) := ⟨d_Model_hasKey_0, d_Model_hasKey_1, d_Model_hasKey_3, d_Model_hasKey_4, d_Model_hasKey_6, d_Model_hasKey_8, d_Model_hasKey_9, d_Model_hasKey_12, d_Model_hasKey_13, d_Model_hasKey_14, d_Model_hasKey_17, d_Model_hasKey_19, d_Model_hasKey_22, d_Model_hasKey_23, d_Model_hasKey_24, d_Model_hasKey_25, d_Model_hasKey_27, d_Model_hasKey_30, d_Model_hasKey_31, d_Model_hasKey_32, d_Model_hasKey_34, d_Model_hasKey_37, d_Model_hasKey_40, d_Model_hasKey_41, d_Model_hasKey_44, d_Model_hasKey_45, d_Model_hasKey_47, d_Model_hasKey_50, d_Model_hasKey_53, d_Model_hasKey_55⟩
theorem v_Model_hasKey : Cond.instanceMethod y_Model_hasKey ∈ nm_Ts ∧ Cond.selects y_Model_hasKey.cls y_Model_hasKey y_Model_hasKey ∈ nm_Ts ∧ Cond.initialized y_Model_hasKey.cls ∈ nm_Ts ∧ Cond.code y_Model_hasKey b_Model_hasKey 7 (some .boolean) ∈ nm_Ts ∧ mz_cl1 y_Model_hasKey 4 := ⟨nm_t5 11 rfl rfl, nm_s 29 rfl rfl, nm_t1 12 rfl rfl, nm_t5 12 rfl rfl, by decide +kernel⟩
def y_Model_leave : MethodName := ⟨"CardOfficeModel", "leave", "(IIII)V"⟩
abbrev b_Model_leave : ByteArray := prog_14_method_33_code
def r_Model_leave (c s : Nat) : Room := { frames := 1, cells := c, slots := s, locals := 22 }
theorem d_Model_leave_0 : decode b_Model_leave 0 = .ok (.iconst 0, 1) := by decide +kernel
theorem d_Model_leave_1 : decode b_Model_leave 1 = .ok (.istore 5, 2) := by decide +kernel
theorem d_Model_leave_3 : decode b_Model_leave 3 = .ok (.iconst 0, 1) := by decide +kernel
theorem d_Model_leave_4 : decode b_Model_leave 4 = .ok (.istore 6, 2) := by decide +kernel
theorem d_Model_leave_6 : decode b_Model_leave 6 = .ok (.iload 6, 2) := by decide +kernel
theorem d_Model_leave_8 : decode b_Model_leave 8 = .ok (.aload_n 0, 1) := by decide +kernel
theorem d_Model_leave_9 : decode b_Model_leave 9 = .ok (.getfield 17, 3) := by decide +kernel
theorem d_Model_leave_12 : decode b_Model_leave 12 = .ok (.iload_n 1, 1) := by decide +kernel
theorem d_Model_leave_13 : decode b_Model_leave 13 = .ok (.iaload, 1) := by decide +kernel
theorem d_Model_leave_14 : decode b_Model_leave 14 = .ok (.if_icmp .ge 79, 3) := by decide +kernel
theorem d_Model_leave_17 : decode b_Model_leave 17 = .ok (.iconst 0, 1) := by decide +kernel
theorem d_Model_leave_18 : decode b_Model_leave 18 = .ok (.istore 7, 2) := by decide +kernel
theorem d_Model_leave_20 : decode b_Model_leave 20 = .ok (.iconst 0, 1) := by decide +kernel
theorem d_Model_leave_21 : decode b_Model_leave 21 = .ok (.istore 8, 2) := by decide +kernel
theorem d_Model_leave_23 : decode b_Model_leave 23 = .ok (.iload 8, 2) := by decide +kernel
theorem d_Model_leave_25 : decode b_Model_leave 25 = .ok (.iload_n 2, 1) := by decide +kernel
theorem d_Model_leave_26 : decode b_Model_leave 26 = .ok (.if_icmp .ge 38, 3) := by decide +kernel
theorem d_Model_leave_29 : decode b_Model_leave 29 = .ok (.iload 7, 2) := by decide +kernel
theorem d_Model_leave_31 : decode b_Model_leave 31 = .ok (.ifCond .ne 20, 3) := by decide +kernel
theorem d_Model_leave_34 : decode b_Model_leave 34 = .ok (.aload_n 0, 1) := by decide +kernel
theorem d_Model_leave_35 : decode b_Model_leave 35 = .ok (.getfield 21, 3) := by decide +kernel
theorem d_Model_leave_38 : decode b_Model_leave 38 = .ok (.iload 8, 2) := by decide +kernel
theorem d_Model_leave_40 : decode b_Model_leave 40 = .ok (.saload, 1) := by decide +kernel
theorem d_Model_leave_41 : decode b_Model_leave 41 = .ok (.aload_n 0, 1) := by decide +kernel
theorem d_Model_leave_42 : decode b_Model_leave 42 = .ok (.iload_n 1, 1) := by decide +kernel
theorem d_Model_leave_43 : decode b_Model_leave 43 = .ok (.iload 6, 2) := by decide +kernel
theorem d_Model_leave_45 : decode b_Model_leave 45 = .ok (.invokevirtual 98, 3) := by decide +kernel
theorem d_Model_leave_48 : decode b_Model_leave 48 = .ok (.if_icmp .ne 7, 3) := by decide +kernel
theorem d_Model_leave_51 : decode b_Model_leave 51 = .ok (.iconst 1, 1) := by decide +kernel
theorem d_Model_leave_52 : decode b_Model_leave 52 = .ok (.goto 4, 3) := by decide +kernel
theorem d_Model_leave_55 : decode b_Model_leave 55 = .ok (.iconst 0, 1) := by decide +kernel
theorem d_Model_leave_56 : decode b_Model_leave 56 = .ok (.istore 7, 2) := by decide +kernel
theorem d_Model_leave_58 : decode b_Model_leave 58 = .ok (.iinc 8 1, 3) := by decide +kernel
theorem d_Model_leave_61 : decode b_Model_leave 61 = .ok (.goto (-38), 3) := by decide +kernel
theorem d_Model_leave_64 : decode b_Model_leave 64 = .ok (.iload 7, 2) := by decide +kernel
theorem d_Model_leave_66 : decode b_Model_leave 66 = .ok (.ifCond .ne 21, 3) := by decide +kernel
theorem d_Model_leave_69 : decode b_Model_leave 69 = .ok (.aload_n 0, 1) := by decide +kernel
theorem d_Model_leave_70 : decode b_Model_leave 70 = .ok (.getfield 24, 3) := by decide +kernel
theorem d_Model_leave_73 : decode b_Model_leave 73 = .ok (.iload 5, 2) := by decide +kernel
theorem d_Model_leave_75 : decode b_Model_leave 75 = .ok (.aload_n 0, 1) := by decide +kernel
theorem d_Model_leave_76 : decode b_Model_leave 76 = .ok (.iload_n 1, 1) := by decide +kernel
theorem d_Model_leave_77 : decode b_Model_leave 77 = .ok (.iload 6, 2) := by decide +kernel
theorem d_Model_leave_79 : decode b_Model_leave 79 = .ok (.invokevirtual 98, 3) := by decide +kernel
theorem d_Model_leave_82 : decode b_Model_leave 82 = .ok (.i2s, 1) := by decide +kernel
theorem d_Model_leave_83 : decode b_Model_leave 83 = .ok (.sastore, 1) := by decide +kernel
theorem d_Model_leave_84 : decode b_Model_leave 84 = .ok (.iinc 5 1, 3) := by decide +kernel
theorem d_Model_leave_87 : decode b_Model_leave 87 = .ok (.iinc 6 1, 3) := by decide +kernel
theorem d_Model_leave_90 : decode b_Model_leave 90 = .ok (.goto (-84), 3) := by decide +kernel
theorem d_Model_leave_93 : decode b_Model_leave 93 = .ok (.aload_n 0, 1) := by decide +kernel
theorem d_Model_leave_94 : decode b_Model_leave 94 = .ok (.getfield 17, 3) := by decide +kernel
theorem d_Model_leave_97 : decode b_Model_leave 97 = .ok (.iload_n 1, 1) := by decide +kernel
theorem d_Model_leave_98 : decode b_Model_leave 98 = .ok (.iload 5, 2) := by decide +kernel
theorem d_Model_leave_100 : decode b_Model_leave 100 = .ok (.iastore, 1) := by decide +kernel
theorem d_Model_leave_101 : decode b_Model_leave 101 = .ok (.iconst 0, 1) := by decide +kernel
theorem d_Model_leave_102 : decode b_Model_leave 102 = .ok (.istore 6, 2) := by decide +kernel
theorem d_Model_leave_104 : decode b_Model_leave 104 = .ok (.iload 6, 2) := by decide +kernel
theorem d_Model_leave_106 : decode b_Model_leave 106 = .ok (.iload 5, 2) := by decide +kernel
theorem d_Model_leave_108 : decode b_Model_leave 108 = .ok (.if_icmp .ge 29, 3) := by decide +kernel
theorem d_Model_leave_111 : decode b_Model_leave 111 = .ok (.aload_n 0, 1) := by decide +kernel
theorem d_Model_leave_112 : decode b_Model_leave 112 = .ok (.getfield 13, 3) := by decide +kernel
theorem d_Model_leave_115 : decode b_Model_leave 115 = .ok (.sipush 200, 3) := by decide +kernel
theorem d_Model_leave_118 : decode b_Model_leave 118 = .ok (.iload_n 1, 1) := by decide +kernel
theorem d_Model_leave_119 : decode b_Model_leave 119 = .ok (.imul, 1) := by decide +kernel
theorem d_Model_leave_120 : decode b_Model_leave 120 = .ok (.iload 6, 2) := by decide +kernel
theorem d_Model_leave_122 : decode b_Model_leave 122 = .ok (.iadd, 1) := by decide +kernel
theorem d_Model_leave_123 : decode b_Model_leave 123 = .ok (.aload_n 0, 1) := by decide +kernel
theorem d_Model_leave_124 : decode b_Model_leave 124 = .ok (.getfield 24, 3) := by decide +kernel
theorem d_Model_leave_127 : decode b_Model_leave 127 = .ok (.iload 6, 2) := by decide +kernel
theorem d_Model_leave_129 : decode b_Model_leave 129 = .ok (.saload, 1) := by decide +kernel
theorem d_Model_leave_130 : decode b_Model_leave 130 = .ok (.sastore, 1) := by decide +kernel
theorem d_Model_leave_131 : decode b_Model_leave 131 = .ok (.iinc 6 1, 3) := by decide +kernel
theorem d_Model_leave_134 : decode b_Model_leave 134 = .ok (.goto (-30), 3) := by decide +kernel
theorem d_Model_leave_137 : decode b_Model_leave 137 = .ok (.return_, 1) := by decide +kernel
theorem d_Model_leave : decode b_Model_leave 0 = .ok (.iconst 0, 1) ∧ decode b_Model_leave 1 = .ok (.istore 5, 2) ∧ decode b_Model_leave 3 = .ok (.iconst 0, 1) ∧ decode b_Model_leave 4 = .ok (.istore 6, 2) ∧ decode b_Model_leave 6 = .ok (.iload 6, 2) ∧ decode b_Model_leave 8 = .ok (.aload_n 0, 1) ∧ decode b_Model_leave 9 = .ok (.getfield 17, 3) ∧ decode b_Model_leave 12 = .ok (.iload_n 1, 1) ∧ decode b_Model_leave 13 = .ok (.iaload, 1) ∧ decode b_Model_leave 14 = .ok (.if_icmp .ge 79, 3) ∧ decode b_Model_leave 17 = .ok (.iconst 0, 1) ∧ decode b_Model_leave 18 = .ok (.istore 7, 2) ∧ decode b_Model_leave 20 = .ok (.iconst 0, 1) ∧ decode b_Model_leave 21 = .ok (.istore 8, 2) ∧ decode b_Model_leave 23 = .ok (.iload 8, 2) ∧ decode b_Model_leave 25 = .ok (.iload_n 2, 1) ∧ decode b_Model_leave 26 = .ok (.if_icmp .ge 38, 3) ∧ decode b_Model_leave 29 = .ok (.iload 7, 2) ∧ decode b_Model_leave 31 = .ok (.ifCond .ne 20, 3) ∧ decode b_Model_leave 34 = .ok (.aload_n 0, 1) ∧ decode b_Model_leave 35 = .ok (.getfield 21, 3) ∧ decode b_Model_leave 38 = .ok (.iload 8, 2) ∧ decode b_Model_leave 40 = .ok (.saload, 1) ∧ decode b_Model_leave 41 = .ok (.aload_n 0, 1) ∧ decode b_Model_leave 42 = .ok (.iload_n 1, 1) ∧ decode b_Model_leave 43 = .ok (.iload 6, 2) ∧ decode b_Model_leave 45 = .ok (.invokevirtual 98, 3) ∧ decode b_Model_leave 48 = .ok (.if_icmp .ne 7, 3) ∧ decode b_Model_leave 51 = .ok (.iconst 1, 1) ∧ decode b_Model_leave 52 = .ok (.goto 4, 3) ∧ decode b_Model_leave 55 = .ok (.iconst 0, 1) ∧ decode b_Model_leave 56 = .ok (.istore 7, 2) ∧ decode b_Model_leave 58 = .ok (.iinc 8 1, 3) ∧ decode b_Model_leave 61 = .ok (.goto (-38), 3) ∧ decode b_Model_leave 64 = .ok (.iload 7, 2) ∧ decode b_Model_leave 66 = .ok (.ifCond .ne 21, 3) ∧ decode b_Model_leave 69 = .ok (.aload_n 0, 1) ∧ decode b_Model_leave 70 = .ok (.getfield 24, 3) ∧ decode b_Model_leave 73 = .ok (.iload 5, 2) ∧ decode b_Model_leave 75 = .ok (.aload_n 0, 1) ∧ decode b_Model_leave 76 = .ok (.iload_n 1, 1) ∧ decode b_Model_leave 77 = .ok (.iload 6, 2) ∧ decode b_Model_leave 79 = .ok (.invokevirtual 98, 3) ∧ decode b_Model_leave 82 = .ok (.i2s, 1) ∧ decode b_Model_leave 83 = .ok (.sastore, 1) ∧ decode b_Model_leave 84 = .ok (.iinc 5 1, 3) ∧ decode b_Model_leave 87 = .ok (.iinc 6 1, 3) ∧ decode b_Model_leave 90 = .ok (.goto (-84), 3) ∧ decode b_Model_leave 93 = .ok (.aload_n 0, 1) ∧ decode b_Model_leave 94 = .ok (.getfield 17, 3) ∧ decode b_Model_leave 97 = .ok (.iload_n 1, 1) ∧ decode b_Model_leave 98 = .ok (.iload 5, 2) ∧ decode b_Model_leave 100 = .ok (.iastore, 1) ∧ decode b_Model_leave 101 = .ok (.iconst 0, 1) ∧ decode b_Model_leave 102 = .ok (.istore 6, 2) ∧ decode b_Model_leave 104 = .ok (.iload 6, 2) ∧ decode b_Model_leave 106 = .ok (.iload 5, 2) ∧ decode b_Model_leave 108 = .ok (.if_icmp .ge 29, 3) ∧ decode b_Model_leave 111 = .ok (.aload_n 0, 1) ∧ decode b_Model_leave 112 = .ok (.getfield 13, 3) ∧ decode b_Model_leave 115 = .ok (.sipush 200, 3) ∧ decode b_Model_leave 118 = .ok (.iload_n 1, 1) ∧ decode b_Model_leave 119 = .ok (.imul, 1) ∧ decode b_Model_leave 120 = .ok (.iload 6, 2) ∧ decode b_Model_leave 122 = .ok (.iadd, 1) ∧ decode b_Model_leave 123 = .ok (.aload_n 0, 1) ∧ decode b_Model_leave 124 = .ok (.getfield 24, 3) ∧ decode b_Model_leave 127 = .ok (.iload 6, 2) ∧ decode b_Model_leave 129 = .ok (.saload, 1) ∧ decode b_Model_leave 130 = .ok (.sastore, 1) ∧ decode b_Model_leave 131 = .ok (.iinc 6 1, 3) ∧ decode b_Model_leave 134 = .ok (.goto (-30), 3) ∧ decode b_Model_leave 137 = .ok (.return_, 1) := ⟨d_Model_leave_0, d_Model_leave_1, d_Model_leave_3, d_Model_leave_4, d_Model_leave_6, d_Model_leave_8, d_Model_leave_9, d_Model_leave_12, d_Model_leave_13, d_Model_leave_14, d_Model_leave_17, d_Model_leave_18, d_Model_leave_20, d_Model_leave_21, d_Model_leave_23, d_Model_leave_25, d_Model_leave_26, d_Model_leave_29, d_Model_leave_31, d_Model_leave_34, d_Model_leave_35, d_Model_leave_38, d_Model_leave_40, d_Model_leave_41, d_Model_leave_42, d_Model_leave_43, d_Model_leave_45, d_Model_leave_48, d_Model_leave_51, d_Model_leave_52, d_Model_leave_55, d_Model_leave_56, d_Model_leave_58, d_Model_leave_61, d_Model_leave_64, d_Model_leave_66, d_Model_leave_69, d_Model_leave_70, d_Model_leave_73, d_Model_leave_75, d_Model_leave_76, d_Model_leave_77, d_Model_leave_79, d_Model_leave_82, d_Model_leave_83, d_Model_leave_84, d_Model_leave_87, d_Model_leave_90, d_Model_leave_93, d_Model_leave_94, d_Model_leave_97, d_Model_leave_98, d_Model_leave_100, d_Model_leave_101, d_Model_leave_102, d_Model_leave_104, d_Model_leave_106, d_Model_leave_108, d_Model_leave_111, d_Model_leave_112, d_Model_leave_115, d_Model_leave_118, d_Model_leave_119, d_Model_leave_120, d_Model_leave_122, d_Model_leave_123, d_Model_leave_124, d_Model_leave_127, d_Model_leave_129, d_Model_leave_130, d_Model_leave_131, d_Model_leave_134, d_Model_leave_137⟩
theorem v_Model_leave : Cond.instanceMethod y_Model_leave ∈ nm_Ts ∧ Cond.selects y_Model_leave.cls y_Model_leave y_Model_leave ∈ nm_Ts ∧ Cond.initialized y_Model_leave.cls ∈ nm_Ts ∧ Cond.code y_Model_leave b_Model_leave 9 none ∈ nm_Ts ∧ mz_cl1 y_Model_leave 4 := ⟨nm_t5 15 rfl rfl, nm_s 30 rfl rfl, nm_t1 12 rfl rfl, nm_t5 16 rfl rfl, by decide +kernel⟩
def y_Model_reproduce : MethodName := ⟨"CardOfficeModel", "reproduce", "(III)I"⟩
abbrev b_Model_reproduce : ByteArray := prog_14_method_36_code
def r_Model_reproduce (c s : Nat) : Room := { frames := 3, cells := c, slots := s, locals := 71 }
theorem d_Model_reproduce_0 : decode b_Model_reproduce 0 = .ok (.aload_n 0, 1) := by decide +kernel
theorem d_Model_reproduce_1 : decode b_Model_reproduce 1 = .ok (.iload_n 1, 1) := by decide +kernel
theorem d_Model_reproduce_2 : decode b_Model_reproduce 2 = .ok (.invokestatic 82, 3) := by decide +kernel
theorem d_Model_reproduce_5 : decode b_Model_reproduce 5 = .ok (.ifCond .eq 26, 3) := by decide +kernel
theorem d_Model_reproduce_8 : decode b_Model_reproduce 8 = .ok (.iload_n 2, 1) := by decide +kernel
theorem d_Model_reproduce_9 : decode b_Model_reproduce 9 = .ok (.invokestatic 65, 3) := by decide +kernel
theorem d_Model_reproduce_12 : decode b_Model_reproduce 12 = .ok (.ifCond .eq 19, 3) := by decide +kernel
theorem d_Model_reproduce_15 : decode b_Model_reproduce 15 = .ok (.iload_n 3, 1) := by decide +kernel
theorem d_Model_reproduce_16 : decode b_Model_reproduce 16 = .ok (.invokestatic 65, 3) := by decide +kernel
theorem d_Model_reproduce_19 : decode b_Model_reproduce 19 = .ok (.ifCond .eq 12, 3) := by decide +kernel
theorem d_Model_reproduce_22 : decode b_Model_reproduce 22 = .ok (.iload_n 2, 1) := by decide +kernel
theorem d_Model_reproduce_23 : decode b_Model_reproduce 23 = .ok (.iload_n 3, 1) := by decide +kernel
theorem d_Model_reproduce_24 : decode b_Model_reproduce 24 = .ok (.if_icmp .eq 7, 3) := by decide +kernel
theorem d_Model_reproduce_27 : decode b_Model_reproduce 27 = .ok (.iconst 0, 1) := by decide +kernel
theorem d_Model_reproduce_28 : decode b_Model_reproduce 28 = .ok (.goto 4, 3) := by decide +kernel
theorem d_Model_reproduce_31 : decode b_Model_reproduce 31 = .ok (.iconst 1, 1) := by decide +kernel
theorem d_Model_reproduce_32 : decode b_Model_reproduce 32 = .ok (.putfield 52, 3) := by decide +kernel
theorem d_Model_reproduce_35 : decode b_Model_reproduce 35 = .ok (.aload_n 0, 1) := by decide +kernel
theorem d_Model_reproduce_36 : decode b_Model_reproduce 36 = .ok (.getfield 52, 3) := by decide +kernel
theorem d_Model_reproduce_39 : decode b_Model_reproduce 39 = .ok (.ifCond .le 5, 3) := by decide +kernel
theorem d_Model_reproduce_42 : decode b_Model_reproduce 42 = .ok (.iconst 0, 1) := by decide +kernel
theorem d_Model_reproduce_43 : decode b_Model_reproduce 43 = .ok (.ireturn, 1) := by decide +kernel
theorem d_Model_reproduce_44 : decode b_Model_reproduce 44 = .ok (.iconst 0, 1) := by decide +kernel
theorem d_Model_reproduce_45 : decode b_Model_reproduce 45 = .ok (.istore 4, 2) := by decide +kernel
theorem d_Model_reproduce_47 : decode b_Model_reproduce 47 = .ok (.iload 4, 2) := by decide +kernel
theorem d_Model_reproduce_49 : decode b_Model_reproduce 49 = .ok (.aload_n 0, 1) := by decide +kernel
theorem d_Model_reproduce_50 : decode b_Model_reproduce 50 = .ok (.getfield 17, 3) := by decide +kernel
theorem d_Model_reproduce_53 : decode b_Model_reproduce 53 = .ok (.iload_n 2, 1) := by decide +kernel
theorem d_Model_reproduce_54 : decode b_Model_reproduce 54 = .ok (.iaload, 1) := by decide +kernel
theorem d_Model_reproduce_55 : decode b_Model_reproduce 55 = .ok (.if_icmp .ge 162, 3) := by decide +kernel
theorem d_Model_reproduce_58 : decode b_Model_reproduce 58 = .ok (.iconst 0, 1) := by decide +kernel
theorem d_Model_reproduce_59 : decode b_Model_reproduce 59 = .ok (.istore 5, 2) := by decide +kernel
theorem d_Model_reproduce_61 : decode b_Model_reproduce 61 = .ok (.iconst 0, 1) := by decide +kernel
theorem d_Model_reproduce_62 : decode b_Model_reproduce 62 = .ok (.istore 6, 2) := by decide +kernel
theorem d_Model_reproduce_64 : decode b_Model_reproduce 64 = .ok (.iload 6, 2) := by decide +kernel
theorem d_Model_reproduce_66 : decode b_Model_reproduce 66 = .ok (.bipush 16, 2) := by decide +kernel
theorem d_Model_reproduce_68 : decode b_Model_reproduce 68 = .ok (.if_icmp .ge 40, 3) := by decide +kernel
theorem d_Model_reproduce_71 : decode b_Model_reproduce 71 = .ok (.iload 5, 2) := by decide +kernel
theorem d_Model_reproduce_73 : decode b_Model_reproduce 73 = .ok (.ifCond .ne 22, 3) := by decide +kernel
theorem d_Model_reproduce_76 : decode b_Model_reproduce 76 = .ok (.aload_n 0, 1) := by decide +kernel
theorem d_Model_reproduce_77 : decode b_Model_reproduce 77 = .ok (.iload_n 1, 1) := by decide +kernel
theorem d_Model_reproduce_78 : decode b_Model_reproduce 78 = .ok (.iload 6, 2) := by decide +kernel
theorem d_Model_reproduce_80 : decode b_Model_reproduce 80 = .ok (.aload_n 0, 1) := by decide +kernel
theorem d_Model_reproduce_81 : decode b_Model_reproduce 81 = .ok (.iload_n 2, 1) := by decide +kernel
theorem d_Model_reproduce_82 : decode b_Model_reproduce 82 = .ok (.iload 4, 2) := by decide +kernel
theorem d_Model_reproduce_84 : decode b_Model_reproduce 84 = .ok (.invokevirtual 98, 3) := by decide +kernel
theorem d_Model_reproduce_87 : decode b_Model_reproduce 87 = .ok (.invokevirtual 151, 3) := by decide +kernel
theorem d_Model_reproduce_90 : decode b_Model_reproduce 90 = .ok (.bipush (-2), 2) := by decide +kernel
theorem d_Model_reproduce_92 : decode b_Model_reproduce 92 = .ok (.if_icmp .ne 7, 3) := by decide +kernel
theorem d_Model_reproduce_95 : decode b_Model_reproduce 95 = .ok (.iconst 1, 1) := by decide +kernel
theorem d_Model_reproduce_96 : decode b_Model_reproduce 96 = .ok (.goto 4, 3) := by decide +kernel
theorem d_Model_reproduce_99 : decode b_Model_reproduce 99 = .ok (.iconst 0, 1) := by decide +kernel
theorem d_Model_reproduce_100 : decode b_Model_reproduce 100 = .ok (.istore 5, 2) := by decide +kernel
theorem d_Model_reproduce_102 : decode b_Model_reproduce 102 = .ok (.iinc 6 1, 3) := by decide +kernel
theorem d_Model_reproduce_105 : decode b_Model_reproduce 105 = .ok (.goto (-41), 3) := by decide +kernel
theorem d_Model_reproduce_108 : decode b_Model_reproduce 108 = .ok (.iload 5, 2) := by decide +kernel
theorem d_Model_reproduce_110 : decode b_Model_reproduce 110 = .ok (.ifCond .ne 13, 3) := by decide +kernel
theorem d_Model_reproduce_113 : decode b_Model_reproduce 113 = .ok (.aload_n 0, 1) := by decide +kernel
theorem d_Model_reproduce_114 : decode b_Model_reproduce 114 = .ok (.getfield 62, 3) := by decide +kernel
theorem d_Model_reproduce_117 : decode b_Model_reproduce 117 = .ok (.sipush 200, 3) := by decide +kernel
theorem d_Model_reproduce_120 : decode b_Model_reproduce 120 = .ok (.if_icmp .ne 20, 3) := by decide +kernel
theorem d_Model_reproduce_123 : decode b_Model_reproduce 123 = .ok (.aload_n 0, 1) := by decide +kernel
theorem d_Model_reproduce_124 : decode b_Model_reproduce 124 = .ok (.iload 5, 2) := by decide +kernel
theorem d_Model_reproduce_126 : decode b_Model_reproduce 126 = .ok (.ifCond .eq 7, 3) := by decide +kernel
theorem d_Model_reproduce_129 : decode b_Model_reproduce 129 = .ok (.iconst 2, 1) := by decide +kernel
theorem d_Model_reproduce_130 : decode b_Model_reproduce 130 = .ok (.goto 4, 3) := by decide +kernel
theorem d_Model_reproduce_133 : decode b_Model_reproduce 133 = .ok (.iconst 4, 1) := by decide +kernel
theorem d_Model_reproduce_134 : decode b_Model_reproduce 134 = .ok (.iload 4, 2) := by decide +kernel
theorem d_Model_reproduce_136 : decode b_Model_reproduce 136 = .ok (.invokevirtual 155, 3) := by decide +kernel
theorem d_Model_reproduce_139 : decode b_Model_reproduce 139 = .ok (.ireturn, 1) := by decide +kernel
theorem d_Model_reproduce_140 : decode b_Model_reproduce 140 = .ok (.aload_n 0, 1) := by decide +kernel
theorem d_Model_reproduce_141 : decode b_Model_reproduce 141 = .ok (.invokevirtual 74, 3) := by decide +kernel
theorem d_Model_reproduce_144 : decode b_Model_reproduce 144 = .ok (.istore 6, 2) := by decide +kernel
theorem d_Model_reproduce_146 : decode b_Model_reproduce 146 = .ok (.iconst 0, 1) := by decide +kernel
theorem d_Model_reproduce_147 : decode b_Model_reproduce 147 = .ok (.istore 7, 2) := by decide +kernel
theorem d_Model_reproduce_149 : decode b_Model_reproduce 149 = .ok (.iload 7, 2) := by decide +kernel
theorem d_Model_reproduce_151 : decode b_Model_reproduce 151 = .ok (.bipush 16, 2) := by decide +kernel
theorem d_Model_reproduce_153 : decode b_Model_reproduce 153 = .ok (.if_icmp .ge 51, 3) := by decide +kernel
theorem d_Model_reproduce_156 : decode b_Model_reproduce 156 = .ok (.aload_n 0, 1) := by decide +kernel
theorem d_Model_reproduce_157 : decode b_Model_reproduce 157 = .ok (.iload_n 1, 1) := by decide +kernel
theorem d_Model_reproduce_158 : decode b_Model_reproduce 158 = .ok (.iload 7, 2) := by decide +kernel
theorem d_Model_reproduce_160 : decode b_Model_reproduce 160 = .ok (.aload_n 0, 1) := by decide +kernel
theorem d_Model_reproduce_161 : decode b_Model_reproduce 161 = .ok (.iload_n 2, 1) := by decide +kernel
theorem d_Model_reproduce_162 : decode b_Model_reproduce 162 = .ok (.iload 4, 2) := by decide +kernel
theorem d_Model_reproduce_164 : decode b_Model_reproduce 164 = .ok (.invokevirtual 98, 3) := by decide +kernel
theorem d_Model_reproduce_167 : decode b_Model_reproduce 167 = .ok (.invokevirtual 151, 3) := by decide +kernel
theorem d_Model_reproduce_170 : decode b_Model_reproduce 170 = .ok (.istore 8, 2) := by decide +kernel
theorem d_Model_reproduce_172 : decode b_Model_reproduce 172 = .ok (.aload_n 0, 1) := by decide +kernel
theorem d_Model_reproduce_173 : decode b_Model_reproduce 173 = .ok (.getfield 7, 3) := by decide +kernel
theorem d_Model_reproduce_176 : decode b_Model_reproduce 176 = .ok (.bipush 16, 2) := by decide +kernel
theorem d_Model_reproduce_178 : decode b_Model_reproduce 178 = .ok (.iload 6, 2) := by decide +kernel
theorem d_Model_reproduce_180 : decode b_Model_reproduce 180 = .ok (.imul, 1) := by decide +kernel
theorem d_Model_reproduce_181 : decode b_Model_reproduce 181 = .ok (.iload 7, 2) := by decide +kernel
theorem d_Model_reproduce_183 : decode b_Model_reproduce 183 = .ok (.iadd, 1) := by decide +kernel
theorem d_Model_reproduce_184 : decode b_Model_reproduce 184 = .ok (.iload 8, 2) := by decide +kernel
theorem d_Model_reproduce_186 : decode b_Model_reproduce 186 = .ok (.ifCond .ge 8, 3) := by decide +kernel
theorem d_Model_reproduce_189 : decode b_Model_reproduce 189 = .ok (.bipush 32, 2) := by decide +kernel
theorem d_Model_reproduce_191 : decode b_Model_reproduce 191 = .ok (.goto 5, 3) := by decide +kernel
theorem d_Model_reproduce_194 : decode b_Model_reproduce 194 = .ok (.iload 8, 2) := by decide +kernel
theorem d_Model_reproduce_196 : decode b_Model_reproduce 196 = .ok (.i2b, 1) := by decide +kernel
theorem d_Model_reproduce_197 : decode b_Model_reproduce 197 = .ok (.bastore, 1) := by decide +kernel
theorem d_Model_reproduce_198 : decode b_Model_reproduce 198 = .ok (.iinc 7 1, 3) := by decide +kernel
theorem d_Model_reproduce_201 : decode b_Model_reproduce 201 = .ok (.goto (-52), 3) := by decide +kernel
theorem d_Model_reproduce_204 : decode b_Model_reproduce 204 = .ok (.aload_n 0, 1) := by decide +kernel
theorem d_Model_reproduce_205 : decode b_Model_reproduce 205 = .ok (.iload_n 3, 1) := by decide +kernel
theorem d_Model_reproduce_206 : decode b_Model_reproduce 206 = .ok (.iload 6, 2) := by decide +kernel
theorem d_Model_reproduce_208 : decode b_Model_reproduce 208 = .ok (.invokevirtual 78, 3) := by decide +kernel
theorem d_Model_reproduce_211 : decode b_Model_reproduce 211 = .ok (.iinc 4 1, 3) := by decide +kernel
theorem d_Model_reproduce_214 : decode b_Model_reproduce 214 = .ok (.goto (-167), 3) := by decide +kernel
theorem d_Model_reproduce_217 : decode b_Model_reproduce 217 = .ok (.aload_n 0, 1) := by decide +kernel
theorem d_Model_reproduce_218 : decode b_Model_reproduce 218 = .ok (.iconst 0, 1) := by decide +kernel
theorem d_Model_reproduce_219 : decode b_Model_reproduce 219 = .ok (.iconst (-1), 1) := by decide +kernel
theorem d_Model_reproduce_220 : decode b_Model_reproduce 220 = .ok (.invokevirtual 155, 3) := by decide +kernel
theorem d_Model_reproduce_223 : decode b_Model_reproduce 223 = .ok (.pop, 1) := by decide +kernel
theorem d_Model_reproduce_224 : decode b_Model_reproduce 224 = .ok (.aload_n 0, 1) := by decide +kernel
theorem d_Model_reproduce_225 : decode b_Model_reproduce 225 = .ok (.getfield 17, 3) := by decide +kernel
theorem d_Model_reproduce_228 : decode b_Model_reproduce 228 = .ok (.iload_n 2, 1) := by decide +kernel
theorem d_Model_reproduce_229 : decode b_Model_reproduce 229 = .ok (.iaload, 1) := by decide +kernel
theorem d_Model_reproduce_230 : decode b_Model_reproduce 230 = .ok (.ireturn, 1) := by decide +kernel
theorem d_Model_reproduce : decode b_Model_reproduce 0 = .ok (.aload_n 0, 1) ∧ decode b_Model_reproduce 1 = .ok (.iload_n 1, 1) ∧ decode b_Model_reproduce 2 = .ok (.invokestatic 82, 3) ∧ decode b_Model_reproduce 5 = .ok (.ifCond .eq 26, 3) ∧ decode b_Model_reproduce 8 = .ok (.iload_n 2, 1) ∧ decode b_Model_reproduce 9 = .ok (.invokestatic 65, 3) ∧ decode b_Model_reproduce 12 = .ok (.ifCond .eq 19, 3) ∧ decode b_Model_reproduce 15 = .ok (.iload_n 3, 1) ∧ decode b_Model_reproduce 16 = .ok (.invokestatic 65, 3) ∧ decode b_Model_reproduce 19 = .ok (.ifCond .eq 12, 3) ∧ decode b_Model_reproduce 22 = .ok (.iload_n 2, 1) ∧ decode b_Model_reproduce 23 = .ok (.iload_n 3, 1) ∧ decode b_Model_reproduce 24 = .ok (.if_icmp .eq 7, 3) ∧ decode b_Model_reproduce 27 = .ok (.iconst 0, 1) ∧ decode b_Model_reproduce 28 = .ok (.goto 4, 3) ∧ decode b_Model_reproduce 31 = .ok (.iconst 1, 1) ∧ decode b_Model_reproduce 32 = .ok (.putfield 52, 3) ∧ decode b_Model_reproduce 35 = .ok (.aload_n 0, 1) ∧ decode b_Model_reproduce 36 = .ok (.getfield 52, 3) ∧ decode b_Model_reproduce 39 = .ok (.ifCond .le 5, 3) ∧ decode b_Model_reproduce 42 = .ok (.iconst 0, 1) ∧ decode b_Model_reproduce 43 = .ok (.ireturn, 1) ∧ decode b_Model_reproduce 44 = .ok (.iconst 0, 1) ∧ decode b_Model_reproduce 45 = .ok (.istore 4, 2) ∧ decode b_Model_reproduce 47 = .ok (.iload 4, 2) ∧ decode b_Model_reproduce 49 = .ok (.aload_n 0, 1) ∧ decode b_Model_reproduce 50 = .ok (.getfield 17, 3) ∧ decode b_Model_reproduce 53 = .ok (.iload_n 2, 1) ∧ decode b_Model_reproduce 54 = .ok (.iaload, 1) ∧ decode b_Model_reproduce 55 = .ok (.if_icmp .ge 162, 3) ∧ decode b_Model_reproduce 58 = .ok (.iconst 0, 1) ∧ decode b_Model_reproduce 59 = .ok (.istore 5, 2) ∧ decode b_Model_reproduce 61 = .ok (.iconst 0, 1) ∧ decode b_Model_reproduce 62 = .ok (.istore 6, 2) ∧ decode b_Model_reproduce 64 = .ok (.iload 6, 2) ∧ decode b_Model_reproduce 66 = .ok (.bipush 16, 2) ∧ decode b_Model_reproduce 68 = .ok (.if_icmp .ge 40, 3) ∧ decode b_Model_reproduce 71 = .ok (.iload 5, 2) ∧ decode b_Model_reproduce 73 = .ok (.ifCond .ne 22, 3) ∧ decode b_Model_reproduce 76 = .ok (.aload_n 0, 1) ∧ decode b_Model_reproduce 77 = .ok (.iload_n 1, 1) ∧ decode b_Model_reproduce 78 = .ok (.iload 6, 2) ∧ decode b_Model_reproduce 80 = .ok (.aload_n 0, 1) ∧ decode b_Model_reproduce 81 = .ok (.iload_n 2, 1) ∧ decode b_Model_reproduce 82 = .ok (.iload 4, 2) ∧ decode b_Model_reproduce 84 = .ok (.invokevirtual 98, 3) ∧ decode b_Model_reproduce 87 = .ok (.invokevirtual 151, 3) ∧ decode b_Model_reproduce 90 = .ok (.bipush (-2), 2) ∧ decode b_Model_reproduce 92 = .ok (.if_icmp .ne 7, 3) ∧ decode b_Model_reproduce 95 = .ok (.iconst 1, 1) ∧ decode b_Model_reproduce 96 = .ok (.goto 4, 3) ∧ decode b_Model_reproduce 99 = .ok (.iconst 0, 1) ∧ decode b_Model_reproduce 100 = .ok (.istore 5, 2) ∧ decode b_Model_reproduce 102 = .ok (.iinc 6 1, 3) ∧ decode b_Model_reproduce 105 = .ok (.goto (-41), 3) ∧ decode b_Model_reproduce 108 = .ok (.iload 5, 2) ∧ decode b_Model_reproduce 110 = .ok (.ifCond .ne 13, 3) ∧ decode b_Model_reproduce 113 = .ok (.aload_n 0, 1) ∧ decode b_Model_reproduce 114 = .ok (.getfield 62, 3) ∧ decode b_Model_reproduce 117 = .ok (.sipush 200, 3) ∧ decode b_Model_reproduce 120 = .ok (.if_icmp .ne 20, 3) ∧ decode b_Model_reproduce 123 = .ok (.aload_n 0, 1) ∧ decode b_Model_reproduce 124 = .ok (.iload 5, 2) ∧ decode b_Model_reproduce 126 = .ok (.ifCond .eq 7, 3) ∧ decode b_Model_reproduce 129 = .ok (.iconst 2, 1) ∧ decode b_Model_reproduce 130 = .ok (.goto 4, 3) ∧ decode b_Model_reproduce 133 = .ok (.iconst 4, 1) ∧ decode b_Model_reproduce 134 = .ok (.iload 4, 2) ∧ decode b_Model_reproduce 136 = .ok (.invokevirtual 155, 3) ∧ decode b_Model_reproduce 139 = .ok (.ireturn, 1) ∧ decode b_Model_reproduce 140 = .ok (.aload_n 0, 1) ∧ decode b_Model_reproduce 141 = .ok (.invokevirtual 74, 3) ∧ decode b_Model_reproduce 144 = .ok (.istore 6, 2) ∧ decode b_Model_reproduce 146 = .ok (.iconst 0, 1) ∧ decode b_Model_reproduce 147 = .ok (.istore 7, 2) ∧ decode b_Model_reproduce 149 = .ok (.iload 7, 2) ∧ decode b_Model_reproduce 151 = .ok (.bipush 16, 2) ∧ decode b_Model_reproduce 153 = .ok (.if_icmp .ge 51, 3) ∧ decode b_Model_reproduce 156 = .ok (.aload_n 0, 1) ∧ decode b_Model_reproduce 157 = .ok (.iload_n 1, 1) ∧ decode b_Model_reproduce 158 = .ok (.iload 7, 2) ∧ decode b_Model_reproduce 160 = .ok (.aload_n 0, 1) ∧ decode b_Model_reproduce 161 = .ok (.iload_n 2, 1) ∧ decode b_Model_reproduce 162 = .ok (.iload 4, 2) ∧ decode b_Model_reproduce 164 = .ok (.invokevirtual 98, 3) ∧ decode b_Model_reproduce 167 = .ok (.invokevirtual 151, 3) ∧ decode b_Model_reproduce 170 = .ok (.istore 8, 2) ∧ decode b_Model_reproduce 172 = .ok (.aload_n 0, 1) ∧ decode b_Model_reproduce 173 = .ok (.getfield 7, 3) ∧ decode b_Model_reproduce 176 = .ok (.bipush 16, 2) ∧ decode b_Model_reproduce 178 = .ok (.iload 6, 2) ∧ decode b_Model_reproduce 180 = .ok (.imul, 1) ∧ decode b_Model_reproduce 181 = .ok (.iload 7, 2) ∧ decode b_Model_reproduce 183 = .ok (.iadd, 1) ∧ decode b_Model_reproduce 184 = .ok (.iload 8, 2) ∧ decode b_Model_reproduce 186 = .ok (.ifCond .ge 8, 3) ∧ decode b_Model_reproduce 189 = .ok (.bipush 32, 2) ∧ decode b_Model_reproduce 191 = .ok (.goto 5, 3) ∧ decode b_Model_reproduce 194 = .ok (.iload 8, 2) ∧ decode b_Model_reproduce 196 = .ok (.i2b, 1) ∧ decode b_Model_reproduce 197 = .ok (.bastore, 1) ∧ decode b_Model_reproduce 198 = .ok (.iinc 7 1, 3) ∧ decode b_Model_reproduce 201 = .ok (.goto (-52), 3) ∧ decode b_Model_reproduce 204 = .ok (.aload_n 0, 1) ∧ decode b_Model_reproduce 205 = .ok (.iload_n 3, 1) ∧ decode b_Model_reproduce 206 = .ok (.iload 6, 2) ∧ decode b_Model_reproduce 208 = .ok (.invokevirtual 78, 3) ∧ decode b_Model_reproduce 211 = .ok (.iinc 4 1, 3) ∧ decode b_Model_reproduce 214 = .ok (.goto (-167), 3) ∧ decode b_Model_reproduce 217 = .ok (.aload_n 0, 1) ∧ decode b_Model_reproduce 218 = .ok (.iconst 0, 1) ∧ decode b_Model_reproduce 219 = .ok (.iconst (-1), 1) ∧ decode b_Model_reproduce 220 = .ok (.invokevirtual 155, 3) ∧ decode b_Model_reproduce 223 = .ok (.pop, 1) ∧ decode b_Model_reproduce 224 = .ok (.aload_n 0, 1) ∧ decode b_Model_reproduce 225 = .ok (.getfield 17, 3) ∧ decode b_Model_reproduce 228 = .ok (.iload_n 2, 1) ∧ decode b_Model_reproduce 229 = .ok (.iaload, 1) ∧ decode b_Model_reproduce 230 = .ok (.ireturn, 1) := ⟨d_Model_reproduce_0, d_Model_reproduce_1, d_Model_reproduce_2, d_Model_reproduce_5, d_Model_reproduce_8, d_Model_reproduce_9, d_Model_reproduce_12, d_Model_reproduce_15, d_Model_reproduce_16, d_Model_reproduce_19, d_Model_reproduce_22, d_Model_reproduce_23, d_Model_reproduce_24, d_Model_reproduce_27, d_Model_reproduce_28, d_Model_reproduce_31, d_Model_reproduce_32, d_Model_reproduce_35, d_Model_reproduce_36, d_Model_reproduce_39, d_Model_reproduce_42, d_Model_reproduce_43, d_Model_reproduce_44, d_Model_reproduce_45, d_Model_reproduce_47, d_Model_reproduce_49, d_Model_reproduce_50, d_Model_reproduce_53, d_Model_reproduce_54, d_Model_reproduce_55, d_Model_reproduce_58, d_Model_reproduce_59, d_Model_reproduce_61, d_Model_reproduce_62, d_Model_reproduce_64, d_Model_reproduce_66, d_Model_reproduce_68, d_Model_reproduce_71, d_Model_reproduce_73, d_Model_reproduce_76, d_Model_reproduce_77, d_Model_reproduce_78, d_Model_reproduce_80, d_Model_reproduce_81, d_Model_reproduce_82, d_Model_reproduce_84, d_Model_reproduce_87, d_Model_reproduce_90, d_Model_reproduce_92, d_Model_reproduce_95, d_Model_reproduce_96, d_Model_reproduce_99, d_Model_reproduce_100, d_Model_reproduce_102, d_Model_reproduce_105, d_Model_reproduce_108, d_Model_reproduce_110, d_Model_reproduce_113, d_Model_reproduce_114, d_Model_reproduce_117, d_Model_reproduce_120, d_Model_reproduce_123, d_Model_reproduce_124, d_Model_reproduce_126, d_Model_reproduce_129, d_Model_reproduce_130, d_Model_reproduce_133, d_Model_reproduce_134, d_Model_reproduce_136, d_Model_reproduce_139, d_Model_reproduce_140, d_Model_reproduce_141, d_Model_reproduce_144, d_Model_reproduce_146, d_Model_reproduce_147, d_Model_reproduce_149, d_Model_reproduce_151, d_Model_reproduce_153, d_Model_reproduce_156, d_Model_reproduce_157, d_Model_reproduce_158, d_Model_reproduce_160, d_Model_reproduce_161, d_Model_reproduce_162, d_Model_reproduce_164, d_Model_reproduce_167, d_Model_reproduce_170, d_Model_reproduce_172, d_Model_reproduce_173, d_Model_reproduce_176, d_Model_reproduce_178, d_Model_reproduce_180, d_Model_reproduce_181, d_Model_reproduce_183, d_Model_reproduce_184, d_Model_reproduce_186, d_Model_reproduce_189, d_Model_reproduce_191, d_Model_reproduce_194, d_Model_reproduce_196, d_Model_reproduce_197, d_Model_reproduce_198, d_Model_reproduce_201, d_Model_reproduce_204, d_Model_reproduce_205, d_Model_reproduce_206, d_Model_reproduce_208, d_Model_reproduce_211, d_Model_reproduce_214, d_Model_reproduce_217, d_Model_reproduce_218, d_Model_reproduce_219, d_Model_reproduce_220, d_Model_reproduce_223, d_Model_reproduce_224, d_Model_reproduce_225, d_Model_reproduce_228, d_Model_reproduce_229, d_Model_reproduce_230⟩
theorem v_Model_reproduce : Cond.instanceMethod y_Model_reproduce ∈ nm_Ts ∧ Cond.selects y_Model_reproduce.cls y_Model_reproduce y_Model_reproduce ∈ nm_Ts ∧ Cond.initialized y_Model_reproduce.cls ∈ nm_Ts ∧ Cond.code y_Model_reproduce b_Model_reproduce 9 (some .int) ∈ nm_Ts ∧ mz_cl1 y_Model_reproduce 3 := ⟨nm_t5 18 rfl rfl, nm_t5 19 rfl rfl, nm_t1 12 rfl rfl, nm_t5 20 rfl rfl, by decide +kernel⟩
def y_Model_arrives : MethodName := ⟨"CardOfficeModel", "arrives", "(III)I"⟩
abbrev b_Model_arrives : ByteArray := prog_14_method_22_code
def r_Model_arrives (c s : Nat) : Room := { frames := 2, cells := c, slots := s, locals := 45 }
theorem d_Model_arrives_0 : decode b_Model_arrives 0 = .ok (.iconst (-1), 1) := by decide +kernel
theorem d_Model_arrives_1 : decode b_Model_arrives 1 = .ok (.istore 4, 2) := by decide +kernel
theorem d_Model_arrives_3 : decode b_Model_arrives 3 = .ok (.bipush 40, 2) := by decide +kernel
theorem d_Model_arrives_5 : decode b_Model_arrives 5 = .ok (.iload_n 1, 1) := by decide +kernel
theorem d_Model_arrives_6 : decode b_Model_arrives 6 = .ok (.imul, 1) := by decide +kernel
theorem d_Model_arrives_7 : decode b_Model_arrives 7 = .ok (.istore 5, 2) := by decide +kernel
theorem d_Model_arrives_9 : decode b_Model_arrives 9 = .ok (.iload 5, 2) := by decide +kernel
theorem d_Model_arrives_11 : decode b_Model_arrives 11 = .ok (.bipush 40, 2) := by decide +kernel
theorem d_Model_arrives_13 : decode b_Model_arrives 13 = .ok (.iload_n 1, 1) := by decide +kernel
theorem d_Model_arrives_14 : decode b_Model_arrives 14 = .ok (.imul, 1) := by decide +kernel
theorem d_Model_arrives_15 : decode b_Model_arrives 15 = .ok (.aload_n 0, 1) := by decide +kernel
theorem d_Model_arrives_16 : decode b_Model_arrives 16 = .ok (.getfield 33, 3) := by decide +kernel
theorem d_Model_arrives_19 : decode b_Model_arrives 19 = .ok (.iload_n 1, 1) := by decide +kernel
theorem d_Model_arrives_20 : decode b_Model_arrives 20 = .ok (.iaload, 1) := by decide +kernel
theorem d_Model_arrives_21 : decode b_Model_arrives 21 = .ok (.iadd, 1) := by decide +kernel
theorem d_Model_arrives_22 : decode b_Model_arrives 22 = .ok (.if_icmp .ge 65, 3) := by decide +kernel
theorem d_Model_arrives_25 : decode b_Model_arrives 25 = .ok (.aload_n 0, 1) := by decide +kernel
theorem d_Model_arrives_26 : decode b_Model_arrives 26 = .ok (.getfield 30, 3) := by decide +kernel
theorem d_Model_arrives_29 : decode b_Model_arrives 29 = .ok (.iload 5, 2) := by decide +kernel
theorem d_Model_arrives_31 : decode b_Model_arrives 31 = .ok (.baload, 1) := by decide +kernel
theorem d_Model_arrives_32 : decode b_Model_arrives 32 = .ok (.iload_n 2, 1) := by decide +kernel
theorem d_Model_arrives_33 : decode b_Model_arrives 33 = .ok (.if_icmp .ne 13, 3) := by decide +kernel
theorem d_Model_arrives_36 : decode b_Model_arrives 36 = .ok (.aload_n 0, 1) := by decide +kernel
theorem d_Model_arrives_37 : decode b_Model_arrives 37 = .ok (.iload 5, 2) := by decide +kernel
theorem d_Model_arrives_39 : decode b_Model_arrives 39 = .ok (.iload_n 3, 1) := by decide +kernel
theorem d_Model_arrives_40 : decode b_Model_arrives 40 = .ok (.invokevirtual 95, 3) := by decide +kernel
theorem d_Model_arrives_43 : decode b_Model_arrives 43 = .ok (.goto 4, 3) := by decide +kernel
theorem d_Model_arrives_46 : decode b_Model_arrives 46 = .ok (.iconst (-1), 1) := by decide +kernel
theorem d_Model_arrives_47 : decode b_Model_arrives 47 = .ok (.istore 6, 2) := by decide +kernel
theorem d_Model_arrives_49 : decode b_Model_arrives 49 = .ok (.iload 6, 2) := by decide +kernel
theorem d_Model_arrives_51 : decode b_Model_arrives 51 = .ok (.ifCond .lt 10, 3) := by decide +kernel
theorem d_Model_arrives_54 : decode b_Model_arrives 54 = .ok (.iload 6, 2) := by decide +kernel
theorem d_Model_arrives_56 : decode b_Model_arrives 56 = .ok (.iload 4, 2) := by decide +kernel
theorem d_Model_arrives_58 : decode b_Model_arrives 58 = .ok (.if_icmp .ne 8, 3) := by decide +kernel
theorem d_Model_arrives_61 : decode b_Model_arrives 61 = .ok (.iload 4, 2) := by decide +kernel
theorem d_Model_arrives_63 : decode b_Model_arrives 63 = .ok (.goto 16, 3) := by decide +kernel
theorem d_Model_arrives_66 : decode b_Model_arrives 66 = .ok (.iload 4, 2) := by decide +kernel
theorem d_Model_arrives_68 : decode b_Model_arrives 68 = .ok (.iconst (-1), 1) := by decide +kernel
theorem d_Model_arrives_69 : decode b_Model_arrives 69 = .ok (.if_icmp .ne 8, 3) := by decide +kernel
theorem d_Model_arrives_72 : decode b_Model_arrives 72 = .ok (.iload 6, 2) := by decide +kernel
theorem d_Model_arrives_74 : decode b_Model_arrives 74 = .ok (.goto 5, 3) := by decide +kernel
theorem d_Model_arrives_77 : decode b_Model_arrives 77 = .ok (.bipush (-2), 2) := by decide +kernel
theorem d_Model_arrives_79 : decode b_Model_arrives 79 = .ok (.istore 4, 2) := by decide +kernel
theorem d_Model_arrives_81 : decode b_Model_arrives 81 = .ok (.iinc 5 1, 3) := by decide +kernel
theorem d_Model_arrives_84 : decode b_Model_arrives 84 = .ok (.goto (-75), 3) := by decide +kernel
theorem d_Model_arrives_87 : decode b_Model_arrives 87 = .ok (.iload 4, 2) := by decide +kernel
theorem d_Model_arrives_89 : decode b_Model_arrives 89 = .ok (.ireturn, 1) := by decide +kernel
theorem d_Model_arrives : decode b_Model_arrives 0 = .ok (.iconst (-1), 1) ∧ decode b_Model_arrives 1 = .ok (.istore 4, 2) ∧ decode b_Model_arrives 3 = .ok (.bipush 40, 2) ∧ decode b_Model_arrives 5 = .ok (.iload_n 1, 1) ∧ decode b_Model_arrives 6 = .ok (.imul, 1) ∧ decode b_Model_arrives 7 = .ok (.istore 5, 2) ∧ decode b_Model_arrives 9 = .ok (.iload 5, 2) ∧ decode b_Model_arrives 11 = .ok (.bipush 40, 2) ∧ decode b_Model_arrives 13 = .ok (.iload_n 1, 1) ∧ decode b_Model_arrives 14 = .ok (.imul, 1) ∧ decode b_Model_arrives 15 = .ok (.aload_n 0, 1) ∧ decode b_Model_arrives 16 = .ok (.getfield 33, 3) ∧ decode b_Model_arrives 19 = .ok (.iload_n 1, 1) ∧ decode b_Model_arrives 20 = .ok (.iaload, 1) ∧ decode b_Model_arrives 21 = .ok (.iadd, 1) ∧ decode b_Model_arrives 22 = .ok (.if_icmp .ge 65, 3) ∧ decode b_Model_arrives 25 = .ok (.aload_n 0, 1) ∧ decode b_Model_arrives 26 = .ok (.getfield 30, 3) ∧ decode b_Model_arrives 29 = .ok (.iload 5, 2) ∧ decode b_Model_arrives 31 = .ok (.baload, 1) ∧ decode b_Model_arrives 32 = .ok (.iload_n 2, 1) ∧ decode b_Model_arrives 33 = .ok (.if_icmp .ne 13, 3) ∧ decode b_Model_arrives 36 = .ok (.aload_n 0, 1) ∧ decode b_Model_arrives 37 = .ok (.iload 5, 2) ∧ decode b_Model_arrives 39 = .ok (.iload_n 3, 1) ∧ decode b_Model_arrives 40 = .ok (.invokevirtual 95, 3) ∧ decode b_Model_arrives 43 = .ok (.goto 4, 3) ∧ decode b_Model_arrives 46 = .ok (.iconst (-1), 1) ∧ decode b_Model_arrives 47 = .ok (.istore 6, 2) ∧ decode b_Model_arrives 49 = .ok (.iload 6, 2) ∧ decode b_Model_arrives 51 = .ok (.ifCond .lt 10, 3) ∧ decode b_Model_arrives 54 = .ok (.iload 6, 2) ∧ decode b_Model_arrives 56 = .ok (.iload 4, 2) ∧ decode b_Model_arrives 58 = .ok (.if_icmp .ne 8, 3) ∧ decode b_Model_arrives 61 = .ok (.iload 4, 2) ∧ decode b_Model_arrives 63 = .ok (.goto 16, 3) ∧ decode b_Model_arrives 66 = .ok (.iload 4, 2) ∧ decode b_Model_arrives 68 = .ok (.iconst (-1), 1) ∧ decode b_Model_arrives 69 = .ok (.if_icmp .ne 8, 3) ∧ decode b_Model_arrives 72 = .ok (.iload 6, 2) ∧ decode b_Model_arrives 74 = .ok (.goto 5, 3) ∧ decode b_Model_arrives 77 = .ok (.bipush (-2), 2) ∧ decode b_Model_arrives 79 = .ok (.istore 4, 2) ∧ decode b_Model_arrives 81 = .ok (.iinc 5 1, 3) ∧ decode b_Model_arrives 84 = .ok (.goto (-75), 3) ∧ decode b_Model_arrives 87 = .ok (.iload 4, 2) ∧ decode b_Model_arrives 89 = .ok (.ireturn, 1) := ⟨d_Model_arrives_0, d_Model_arrives_1, d_Model_arrives_3, d_Model_arrives_5, d_Model_arrives_6, d_Model_arrives_7, d_Model_arrives_9, d_Model_arrives_11, d_Model_arrives_13, d_Model_arrives_14, d_Model_arrives_15, d_Model_arrives_16, d_Model_arrives_19, d_Model_arrives_20, d_Model_arrives_21, d_Model_arrives_22, d_Model_arrives_25, d_Model_arrives_26, d_Model_arrives_29, d_Model_arrives_31, d_Model_arrives_32, d_Model_arrives_33, d_Model_arrives_36, d_Model_arrives_37, d_Model_arrives_39, d_Model_arrives_40, d_Model_arrives_43, d_Model_arrives_46, d_Model_arrives_47, d_Model_arrives_49, d_Model_arrives_51, d_Model_arrives_54, d_Model_arrives_56, d_Model_arrives_58, d_Model_arrives_61, d_Model_arrives_63, d_Model_arrives_66, d_Model_arrives_68, d_Model_arrives_69, d_Model_arrives_72, d_Model_arrives_74, d_Model_arrives_77, d_Model_arrives_79, d_Model_arrives_81, d_Model_arrives_84, d_Model_arrives_87, d_Model_arrives_89⟩
theorem v_Model_arrives : Cond.instanceMethod y_Model_arrives ∈ nm_Ts ∧ Cond.selects y_Model_arrives.cls y_Model_arrives y_Model_arrives ∈ nm_Ts ∧ Cond.initialized y_Model_arrives.cls ∈ nm_Ts ∧ Cond.code y_Model_arrives b_Model_arrives 7 (some .int) ∈ nm_Ts ∧ mz_cl1 y_Model_arrives 3 := ⟨nm_t5 23 rfl rfl, nm_s 31 rfl rfl, nm_t1 12 rfl rfl, nm_t5 24 rfl rfl, by decide +kernel⟩
def y_Model_brings : MethodName := ⟨"CardOfficeModel", "brings", "(II)I"⟩
abbrev b_Model_brings : ByteArray := prog_14_method_21_code
def r_Model_brings (c s : Nat) : Room := { frames := 1, cells := c, slots := s, locals := 22 }
theorem d_Model_brings_0 : decode b_Model_brings 0 = .ok (.aload_n 0, 1) := by decide +kernel
theorem d_Model_brings_1 : decode b_Model_brings 1 = .ok (.getfield 27, 3) := by decide +kernel
theorem d_Model_brings_4 : decode b_Model_brings 4 = .ok (.iload_n 1, 1) := by decide +kernel
theorem d_Model_brings_5 : decode b_Model_brings 5 = .ok (.baload, 1) := by decide +kernel
theorem d_Model_brings_6 : decode b_Model_brings 6 = .ok (.istore_n 3, 1) := by decide +kernel
theorem d_Model_brings_7 : decode b_Model_brings 7 = .ok (.iload_n 3, 1) := by decide +kernel
theorem d_Model_brings_8 : decode b_Model_brings 8 = .ok (.bipush 16, 2) := by decide +kernel
theorem d_Model_brings_10 : decode b_Model_brings 10 = .ok (.if_icmp .ge 20, 3) := by decide +kernel
theorem d_Model_brings_13 : decode b_Model_brings 13 = .ok (.iload_n 2, 1) := by decide +kernel
theorem d_Model_brings_14 : decode b_Model_brings 14 = .ok (.ifCond .ge 7, 3) := by decide +kernel
theorem d_Model_brings_17 : decode b_Model_brings 17 = .ok (.iconst (-1), 1) := by decide +kernel
theorem d_Model_brings_18 : decode b_Model_brings 18 = .ok (.goto 26, 3) := by decide +kernel
theorem d_Model_brings_21 : decode b_Model_brings 21 = .ok (.aload_n 0, 1) := by decide +kernel
theorem d_Model_brings_22 : decode b_Model_brings 22 = .ok (.iload_n 2, 1) := by decide +kernel
theorem d_Model_brings_23 : decode b_Model_brings 23 = .ok (.iload_n 3, 1) := by decide +kernel
theorem d_Model_brings_24 : decode b_Model_brings 24 = .ok (.invokevirtual 91, 3) := by decide +kernel
theorem d_Model_brings_27 : decode b_Model_brings 27 = .ok (.goto 17, 3) := by decide +kernel
theorem d_Model_brings_30 : decode b_Model_brings 30 = .ok (.iload_n 3, 1) := by decide +kernel
theorem d_Model_brings_31 : decode b_Model_brings 31 = .ok (.bipush 26, 2) := by decide +kernel
theorem d_Model_brings_33 : decode b_Model_brings 33 = .ok (.if_icmp .ge 10, 3) := by decide +kernel
theorem d_Model_brings_36 : decode b_Model_brings 36 = .ok (.bipush 32, 2) := by decide +kernel
theorem d_Model_brings_38 : decode b_Model_brings 38 = .ok (.iload_n 3, 1) := by decide +kernel
theorem d_Model_brings_39 : decode b_Model_brings 39 = .ok (.iadd, 1) := by decide +kernel
theorem d_Model_brings_40 : decode b_Model_brings 40 = .ok (.goto 4, 3) := by decide +kernel
theorem d_Model_brings_43 : decode b_Model_brings 43 = .ok (.iconst (-1), 1) := by decide +kernel
theorem d_Model_brings_44 : decode b_Model_brings 44 = .ok (.ireturn, 1) := by decide +kernel
theorem d_Model_brings : decode b_Model_brings 0 = .ok (.aload_n 0, 1) ∧ decode b_Model_brings 1 = .ok (.getfield 27, 3) ∧ decode b_Model_brings 4 = .ok (.iload_n 1, 1) ∧ decode b_Model_brings 5 = .ok (.baload, 1) ∧ decode b_Model_brings 6 = .ok (.istore_n 3, 1) ∧ decode b_Model_brings 7 = .ok (.iload_n 3, 1) ∧ decode b_Model_brings 8 = .ok (.bipush 16, 2) ∧ decode b_Model_brings 10 = .ok (.if_icmp .ge 20, 3) ∧ decode b_Model_brings 13 = .ok (.iload_n 2, 1) ∧ decode b_Model_brings 14 = .ok (.ifCond .ge 7, 3) ∧ decode b_Model_brings 17 = .ok (.iconst (-1), 1) ∧ decode b_Model_brings 18 = .ok (.goto 26, 3) ∧ decode b_Model_brings 21 = .ok (.aload_n 0, 1) ∧ decode b_Model_brings 22 = .ok (.iload_n 2, 1) ∧ decode b_Model_brings 23 = .ok (.iload_n 3, 1) ∧ decode b_Model_brings 24 = .ok (.invokevirtual 91, 3) ∧ decode b_Model_brings 27 = .ok (.goto 17, 3) ∧ decode b_Model_brings 30 = .ok (.iload_n 3, 1) ∧ decode b_Model_brings 31 = .ok (.bipush 26, 2) ∧ decode b_Model_brings 33 = .ok (.if_icmp .ge 10, 3) ∧ decode b_Model_brings 36 = .ok (.bipush 32, 2) ∧ decode b_Model_brings 38 = .ok (.iload_n 3, 1) ∧ decode b_Model_brings 39 = .ok (.iadd, 1) ∧ decode b_Model_brings 40 = .ok (.goto 4, 3) ∧ decode b_Model_brings 43 = .ok (.iconst (-1), 1) ∧ decode b_Model_brings 44 = .ok (.ireturn, 1) := ⟨d_Model_brings_0, d_Model_brings_1, d_Model_brings_4, d_Model_brings_5, d_Model_brings_6, d_Model_brings_7, d_Model_brings_8, d_Model_brings_10, d_Model_brings_13, d_Model_brings_14, d_Model_brings_17, d_Model_brings_18, d_Model_brings_21, d_Model_brings_22, d_Model_brings_23, d_Model_brings_24, d_Model_brings_27, d_Model_brings_30, d_Model_brings_31, d_Model_brings_33, d_Model_brings_36, d_Model_brings_38, d_Model_brings_39, d_Model_brings_40, d_Model_brings_43, d_Model_brings_44⟩
theorem v_Model_brings : Cond.instanceMethod y_Model_brings ∈ nm_Ts ∧ Cond.selects y_Model_brings.cls y_Model_brings y_Model_brings ∈ nm_Ts ∧ Cond.initialized y_Model_brings.cls ∈ nm_Ts ∧ Cond.code y_Model_brings b_Model_brings 4 (some .int) ∈ nm_Ts ∧ mz_cl1 y_Model_brings 2 := ⟨nm_t5 27 rfl rfl, nm_s 32 rfl rfl, nm_t1 12 rfl rfl, nm_t5 28 rfl rfl, by decide +kernel⟩
def y_Model_fails : MethodName := ⟨"CardOfficeModel", "fails", "(II)I"⟩
abbrev b_Model_fails : ByteArray := prog_14_method_35_code
def r_Model_fails (c s : Nat) : Room := { frames := 0, cells := c, slots := s, locals := 0 }
theorem d_Model_fails_0 : decode b_Model_fails 0 = .ok (.aload_n 0, 1) := by decide +kernel
theorem d_Model_fails_1 : decode b_Model_fails 1 = .ok (.iload_n 1, 1) := by decide +kernel
theorem d_Model_fails_2 : decode b_Model_fails 2 = .ok (.putfield 148, 3) := by decide +kernel
theorem d_Model_fails_5 : decode b_Model_fails 5 = .ok (.aload_n 0, 1) := by decide +kernel
theorem d_Model_fails_6 : decode b_Model_fails 6 = .ok (.iload_n 2, 1) := by decide +kernel
theorem d_Model_fails_7 : decode b_Model_fails 7 = .ok (.putfield 48, 3) := by decide +kernel
theorem d_Model_fails_10 : decode b_Model_fails 10 = .ok (.iload_n 2, 1) := by decide +kernel
theorem d_Model_fails_11 : decode b_Model_fails 11 = .ok (.ireturn, 1) := by decide +kernel
theorem d_Model_fails : decode b_Model_fails 0 = .ok (.aload_n 0, 1) ∧ decode b_Model_fails 1 = .ok (.iload_n 1, 1) ∧ decode b_Model_fails 2 = .ok (.putfield 148, 3) ∧ decode b_Model_fails 5 = .ok (.aload_n 0, 1) ∧ decode b_Model_fails 6 = .ok (.iload_n 2, 1) ∧ decode b_Model_fails 7 = .ok (.putfield 48, 3) ∧ decode b_Model_fails 10 = .ok (.iload_n 2, 1) ∧ decode b_Model_fails 11 = .ok (.ireturn, 1) := ⟨d_Model_fails_0, d_Model_fails_1, d_Model_fails_2, d_Model_fails_5, d_Model_fails_6, d_Model_fails_7, d_Model_fails_10, d_Model_fails_11⟩
theorem v_Model_fails : Cond.instanceMethod y_Model_fails ∈ nm_Ts ∧ Cond.selects y_Model_fails.cls y_Model_fails y_Model_fails ∈ nm_Ts ∧ Cond.initialized y_Model_fails.cls ∈ nm_Ts ∧ Cond.code y_Model_fails b_Model_fails 3 (some .int) ∈ nm_Ts ∧ mz_cl1 y_Model_fails 2 := ⟨nm_t5 31 rfl rfl, nm_s 33 rfl rfl, nm_t1 12 rfl rfl, nm_t5 32 rfl rfl, by decide +kernel⟩
def y_Model_gang : MethodName := ⟨"CardOfficeModel", "gang", "(III)I"⟩
abbrev b_Model_gang : ByteArray := prog_14_method_37_code
def r_Model_gang (c s : Nat) : Room := { frames := 4, cells := c, slots := s, locals := 99 }
theorem d_Model_gang_0 : decode b_Model_gang 0 = .ok (.aload_n 0, 1) := by decide +kernel
theorem d_Model_gang_1 : decode b_Model_gang 1 = .ok (.iload_n 1, 1) := by decide +kernel
theorem d_Model_gang_2 : decode b_Model_gang 2 = .ok (.invokestatic 82, 3) := by decide +kernel
theorem d_Model_gang_5 : decode b_Model_gang 5 = .ok (.ifCond .eq 21, 3) := by decide +kernel
theorem d_Model_gang_8 : decode b_Model_gang 8 = .ok (.iload_n 2, 1) := by decide +kernel
theorem d_Model_gang_9 : decode b_Model_gang 9 = .ok (.invokestatic 65, 3) := by decide +kernel
theorem d_Model_gang_12 : decode b_Model_gang 12 = .ok (.ifCond .eq 14, 3) := by decide +kernel
theorem d_Model_gang_15 : decode b_Model_gang 15 = .ok (.iload_n 3, 1) := by decide +kernel
theorem d_Model_gang_16 : decode b_Model_gang 16 = .ok (.invokestatic 108, 3) := by decide +kernel
theorem d_Model_gang_19 : decode b_Model_gang 19 = .ok (.ifCond .eq 7, 3) := by decide +kernel
theorem d_Model_gang_22 : decode b_Model_gang 22 = .ok (.iconst 0, 1) := by decide +kernel
theorem d_Model_gang_23 : decode b_Model_gang 23 = .ok (.goto 4, 3) := by decide +kernel
theorem d_Model_gang_26 : decode b_Model_gang 26 = .ok (.iconst 1, 1) := by decide +kernel
theorem d_Model_gang_27 : decode b_Model_gang 27 = .ok (.putfield 52, 3) := by decide +kernel
theorem d_Model_gang_30 : decode b_Model_gang 30 = .ok (.aload_n 0, 1) := by decide +kernel
theorem d_Model_gang_31 : decode b_Model_gang 31 = .ok (.getfield 52, 3) := by decide +kernel
theorem d_Model_gang_34 : decode b_Model_gang 34 = .ok (.ifCond .le 5, 3) := by decide +kernel
theorem d_Model_gang_37 : decode b_Model_gang 37 = .ok (.iconst 0, 1) := by decide +kernel
theorem d_Model_gang_38 : decode b_Model_gang 38 = .ok (.ireturn, 1) := by decide +kernel
theorem d_Model_gang_39 : decode b_Model_gang 39 = .ok (.iconst (-1), 1) := by decide +kernel
theorem d_Model_gang_40 : decode b_Model_gang 40 = .ok (.istore 4, 2) := by decide +kernel
theorem d_Model_gang_42 : decode b_Model_gang 42 = .ok (.iconst 0, 1) := by decide +kernel
theorem d_Model_gang_43 : decode b_Model_gang 43 = .ok (.istore 5, 2) := by decide +kernel
theorem d_Model_gang_45 : decode b_Model_gang 45 = .ok (.iload 5, 2) := by decide +kernel
theorem d_Model_gang_47 : decode b_Model_gang 47 = .ok (.aload_n 0, 1) := by decide +kernel
theorem d_Model_gang_48 : decode b_Model_gang 48 = .ok (.getfield 17, 3) := by decide +kernel
theorem d_Model_gang_51 : decode b_Model_gang 51 = .ok (.iload_n 2, 1) := by decide +kernel
theorem d_Model_gang_52 : decode b_Model_gang 52 = .ok (.iaload, 1) := by decide +kernel
theorem d_Model_gang_53 : decode b_Model_gang 53 = .ok (.if_icmp .ge 133, 3) := by decide +kernel
theorem d_Model_gang_56 : decode b_Model_gang 56 = .ok (.aload_n 0, 1) := by decide +kernel
theorem d_Model_gang_57 : decode b_Model_gang 57 = .ok (.iload_n 2, 1) := by decide +kernel
theorem d_Model_gang_58 : decode b_Model_gang 58 = .ok (.iload 5, 2) := by decide +kernel
theorem d_Model_gang_60 : decode b_Model_gang 60 = .ok (.invokevirtual 98, 3) := by decide +kernel
theorem d_Model_gang_63 : decode b_Model_gang 63 = .ok (.istore 6, 2) := by decide +kernel
theorem d_Model_gang_65 : decode b_Model_gang 65 = .ok (.aload_n 0, 1) := by decide +kernel
theorem d_Model_gang_66 : decode b_Model_gang 66 = .ok (.iload 6, 2) := by decide +kernel
theorem d_Model_gang_68 : decode b_Model_gang 68 = .ok (.iload_n 3, 1) := by decide +kernel
theorem d_Model_gang_69 : decode b_Model_gang 69 = .ok (.invokevirtual 91, 3) := by decide +kernel
theorem d_Model_gang_72 : decode b_Model_gang 72 = .ok (.invokestatic 55, 3) := by decide +kernel
theorem d_Model_gang_75 : decode b_Model_gang 75 = .ok (.iconst 2, 1) := by decide +kernel
theorem d_Model_gang_76 : decode b_Model_gang 76 = .ok (.if_icmp .ne 10, 3) := by decide +kernel
theorem d_Model_gang_79 : decode b_Model_gang 79 = .ok (.iload 6, 2) := by decide +kernel
theorem d_Model_gang_81 : decode b_Model_gang 81 = .ok (.istore 4, 2) := by decide +kernel
theorem d_Model_gang_83 : decode b_Model_gang 83 = .ok (.goto 97, 3) := by decide +kernel
theorem d_Model_gang_86 : decode b_Model_gang 86 = .ok (.iload 4, 2) := by decide +kernel
theorem d_Model_gang_88 : decode b_Model_gang 88 = .ok (.ifCond .lt 92, 3) := by decide +kernel
theorem d_Model_gang_91 : decode b_Model_gang 91 = .ok (.aload_n 0, 1) := by decide +kernel
theorem d_Model_gang_92 : decode b_Model_gang 92 = .ok (.iload_n 1, 1) := by decide +kernel
theorem d_Model_gang_93 : decode b_Model_gang 93 = .ok (.iload 4, 2) := by decide +kernel
theorem d_Model_gang_95 : decode b_Model_gang 95 = .ok (.iload 6, 2) := by decide +kernel
theorem d_Model_gang_97 : decode b_Model_gang 97 = .ok (.invokevirtual 158, 3) := by decide +kernel
theorem d_Model_gang_100 : decode b_Model_gang 100 = .ok (.istore 7, 2) := by decide +kernel
theorem d_Model_gang_102 : decode b_Model_gang 102 = .ok (.iload 7, 2) := by decide +kernel
theorem d_Model_gang_104 : decode b_Model_gang 104 = .ok (.ifCond .le 12, 3) := by decide +kernel
theorem d_Model_gang_107 : decode b_Model_gang 107 = .ok (.aload_n 0, 1) := by decide +kernel
theorem d_Model_gang_108 : decode b_Model_gang 108 = .ok (.iload 7, 2) := by decide +kernel
theorem d_Model_gang_110 : decode b_Model_gang 110 = .ok (.iload 5, 2) := by decide +kernel
theorem d_Model_gang_112 : decode b_Model_gang 112 = .ok (.invokevirtual 155, 3) := by decide +kernel
theorem d_Model_gang_115 : decode b_Model_gang 115 = .ok (.ireturn, 1) := by decide +kernel
theorem d_Model_gang_116 : decode b_Model_gang 116 = .ok (.iconst 0, 1) := by decide +kernel
theorem d_Model_gang_117 : decode b_Model_gang 117 = .ok (.istore 8, 2) := by decide +kernel
theorem d_Model_gang_119 : decode b_Model_gang 119 = .ok (.iload 8, 2) := by decide +kernel
theorem d_Model_gang_121 : decode b_Model_gang 121 = .ok (.bipush 16, 2) := by decide +kernel
theorem d_Model_gang_123 : decode b_Model_gang 123 = .ok (.if_icmp .ge 57, 3) := by decide +kernel
theorem d_Model_gang_126 : decode b_Model_gang 126 = .ok (.aload_n 0, 1) := by decide +kernel
theorem d_Model_gang_127 : decode b_Model_gang 127 = .ok (.iload_n 1, 1) := by decide +kernel
theorem d_Model_gang_128 : decode b_Model_gang 128 = .ok (.iload 8, 2) := by decide +kernel
theorem d_Model_gang_130 : decode b_Model_gang 130 = .ok (.iload 4, 2) := by decide +kernel
theorem d_Model_gang_132 : decode b_Model_gang 132 = .ok (.invokevirtual 151, 3) := by decide +kernel
theorem d_Model_gang_135 : decode b_Model_gang 135 = .ok (.istore 9, 2) := by decide +kernel
theorem d_Model_gang_137 : decode b_Model_gang 137 = .ok (.aload_n 0, 1) := by decide +kernel
theorem d_Model_gang_138 : decode b_Model_gang 138 = .ok (.getfield 7, 3) := by decide +kernel
theorem d_Model_gang_141 : decode b_Model_gang 141 = .ok (.bipush 16, 2) := by decide +kernel
theorem d_Model_gang_143 : decode b_Model_gang 143 = .ok (.iload 6, 2) := by decide +kernel
theorem d_Model_gang_145 : decode b_Model_gang 145 = .ok (.imul, 1) := by decide +kernel
theorem d_Model_gang_146 : decode b_Model_gang 146 = .ok (.iload 8, 2) := by decide +kernel
theorem d_Model_gang_148 : decode b_Model_gang 148 = .ok (.iadd, 1) := by decide +kernel
theorem d_Model_gang_149 : decode b_Model_gang 149 = .ok (.iload 9, 2) := by decide +kernel
theorem d_Model_gang_151 : decode b_Model_gang 151 = .ok (.ifCond .ge 19, 3) := by decide +kernel
theorem d_Model_gang_154 : decode b_Model_gang 154 = .ok (.aload_n 0, 1) := by decide +kernel
theorem d_Model_gang_155 : decode b_Model_gang 155 = .ok (.getfield 7, 3) := by decide +kernel
theorem d_Model_gang_158 : decode b_Model_gang 158 = .ok (.bipush 16, 2) := by decide +kernel
theorem d_Model_gang_160 : decode b_Model_gang 160 = .ok (.iload 6, 2) := by decide +kernel
theorem d_Model_gang_162 : decode b_Model_gang 162 = .ok (.imul, 1) := by decide +kernel
theorem d_Model_gang_163 : decode b_Model_gang 163 = .ok (.iload 8, 2) := by decide +kernel
theorem d_Model_gang_165 : decode b_Model_gang 165 = .ok (.iadd, 1) := by decide +kernel
theorem d_Model_gang_166 : decode b_Model_gang 166 = .ok (.baload, 1) := by decide +kernel
theorem d_Model_gang_167 : decode b_Model_gang 167 = .ok (.goto 6, 3) := by decide +kernel
theorem d_Model_gang_170 : decode b_Model_gang 170 = .ok (.iload 9, 2) := by decide +kernel
theorem d_Model_gang_172 : decode b_Model_gang 172 = .ok (.i2b, 1) := by decide +kernel
theorem d_Model_gang_173 : decode b_Model_gang 173 = .ok (.bastore, 1) := by decide +kernel
theorem d_Model_gang_174 : decode b_Model_gang 174 = .ok (.iinc 8 1, 3) := by decide +kernel
theorem d_Model_gang_177 : decode b_Model_gang 177 = .ok (.goto (-58), 3) := by decide +kernel
theorem d_Model_gang_180 : decode b_Model_gang 180 = .ok (.iinc 5 1, 3) := by decide +kernel
theorem d_Model_gang_183 : decode b_Model_gang 183 = .ok (.goto (-138), 3) := by decide +kernel
theorem d_Model_gang_186 : decode b_Model_gang 186 = .ok (.aload_n 0, 1) := by decide +kernel
theorem d_Model_gang_187 : decode b_Model_gang 187 = .ok (.iconst 0, 1) := by decide +kernel
theorem d_Model_gang_188 : decode b_Model_gang 188 = .ok (.iconst (-1), 1) := by decide +kernel
theorem d_Model_gang_189 : decode b_Model_gang 189 = .ok (.invokevirtual 155, 3) := by decide +kernel
theorem d_Model_gang_192 : decode b_Model_gang 192 = .ok (.pop, 1) := by decide +kernel
theorem d_Model_gang_193 : decode b_Model_gang 193 = .ok (.aload_n 0, 1) := by decide +kernel
theorem d_Model_gang_194 : decode b_Model_gang 194 = .ok (.getfield 17, 3) := by decide +kernel
theorem d_Model_gang_197 : decode b_Model_gang 197 = .ok (.iload_n 2, 1) := by decide +kernel
theorem d_Model_gang_198 : decode b_Model_gang 198 = .ok (.iaload, 1) := by decide +kernel
theorem d_Model_gang_199 : decode b_Model_gang 199 = .ok (.ireturn, 1) := by decide +kernel
theorem d_Model_gang : decode b_Model_gang 0 = .ok (.aload_n 0, 1) ∧ decode b_Model_gang 1 = .ok (.iload_n 1, 1) ∧ decode b_Model_gang 2 = .ok (.invokestatic 82, 3) ∧ decode b_Model_gang 5 = .ok (.ifCond .eq 21, 3) ∧ decode b_Model_gang 8 = .ok (.iload_n 2, 1) ∧ decode b_Model_gang 9 = .ok (.invokestatic 65, 3) ∧ decode b_Model_gang 12 = .ok (.ifCond .eq 14, 3) ∧ decode b_Model_gang 15 = .ok (.iload_n 3, 1) ∧ decode b_Model_gang 16 = .ok (.invokestatic 108, 3) ∧ decode b_Model_gang 19 = .ok (.ifCond .eq 7, 3) ∧ decode b_Model_gang 22 = .ok (.iconst 0, 1) ∧ decode b_Model_gang 23 = .ok (.goto 4, 3) ∧ decode b_Model_gang 26 = .ok (.iconst 1, 1) ∧ decode b_Model_gang 27 = .ok (.putfield 52, 3) ∧ decode b_Model_gang 30 = .ok (.aload_n 0, 1) ∧ decode b_Model_gang 31 = .ok (.getfield 52, 3) ∧ decode b_Model_gang 34 = .ok (.ifCond .le 5, 3) ∧ decode b_Model_gang 37 = .ok (.iconst 0, 1) ∧ decode b_Model_gang 38 = .ok (.ireturn, 1) ∧ decode b_Model_gang 39 = .ok (.iconst (-1), 1) ∧ decode b_Model_gang 40 = .ok (.istore 4, 2) ∧ decode b_Model_gang 42 = .ok (.iconst 0, 1) ∧ decode b_Model_gang 43 = .ok (.istore 5, 2) ∧ decode b_Model_gang 45 = .ok (.iload 5, 2) ∧ decode b_Model_gang 47 = .ok (.aload_n 0, 1) ∧ decode b_Model_gang 48 = .ok (.getfield 17, 3) ∧ decode b_Model_gang 51 = .ok (.iload_n 2, 1) ∧ decode b_Model_gang 52 = .ok (.iaload, 1) ∧ decode b_Model_gang 53 = .ok (.if_icmp .ge 133, 3) ∧ decode b_Model_gang 56 = .ok (.aload_n 0, 1) ∧ decode b_Model_gang 57 = .ok (.iload_n 2, 1) ∧ decode b_Model_gang 58 = .ok (.iload 5, 2) ∧ decode b_Model_gang 60 = .ok (.invokevirtual 98, 3) ∧ decode b_Model_gang 63 = .ok (.istore 6, 2) ∧ decode b_Model_gang 65 = .ok (.aload_n 0, 1) ∧ decode b_Model_gang 66 = .ok (.iload 6, 2) ∧ decode b_Model_gang 68 = .ok (.iload_n 3, 1) ∧ decode b_Model_gang 69 = .ok (.invokevirtual 91, 3) ∧ decode b_Model_gang 72 = .ok (.invokestatic 55, 3) ∧ decode b_Model_gang 75 = .ok (.iconst 2, 1) ∧ decode b_Model_gang 76 = .ok (.if_icmp .ne 10, 3) ∧ decode b_Model_gang 79 = .ok (.iload 6, 2) ∧ decode b_Model_gang 81 = .ok (.istore 4, 2) ∧ decode b_Model_gang 83 = .ok (.goto 97, 3) ∧ decode b_Model_gang 86 = .ok (.iload 4, 2) ∧ decode b_Model_gang 88 = .ok (.ifCond .lt 92, 3) ∧ decode b_Model_gang 91 = .ok (.aload_n 0, 1) ∧ decode b_Model_gang 92 = .ok (.iload_n 1, 1) ∧ decode b_Model_gang 93 = .ok (.iload 4, 2) ∧ decode b_Model_gang 95 = .ok (.iload 6, 2) ∧ decode b_Model_gang 97 = .ok (.invokevirtual 158, 3) ∧ decode b_Model_gang 100 = .ok (.istore 7, 2) ∧ decode b_Model_gang 102 = .ok (.iload 7, 2) ∧ decode b_Model_gang 104 = .ok (.ifCond .le 12, 3) ∧ decode b_Model_gang 107 = .ok (.aload_n 0, 1) ∧ decode b_Model_gang 108 = .ok (.iload 7, 2) ∧ decode b_Model_gang 110 = .ok (.iload 5, 2) ∧ decode b_Model_gang 112 = .ok (.invokevirtual 155, 3) ∧ decode b_Model_gang 115 = .ok (.ireturn, 1) ∧ decode b_Model_gang 116 = .ok (.iconst 0, 1) ∧ decode b_Model_gang 117 = .ok (.istore 8, 2) ∧ decode b_Model_gang 119 = .ok (.iload 8, 2) ∧ decode b_Model_gang 121 = .ok (.bipush 16, 2) ∧ decode b_Model_gang 123 = .ok (.if_icmp .ge 57, 3) ∧ decode b_Model_gang 126 = .ok (.aload_n 0, 1) ∧ decode b_Model_gang 127 = .ok (.iload_n 1, 1) ∧ decode b_Model_gang 128 = .ok (.iload 8, 2) ∧ decode b_Model_gang 130 = .ok (.iload 4, 2) ∧ decode b_Model_gang 132 = .ok (.invokevirtual 151, 3) ∧ decode b_Model_gang 135 = .ok (.istore 9, 2) ∧ decode b_Model_gang 137 = .ok (.aload_n 0, 1) ∧ decode b_Model_gang 138 = .ok (.getfield 7, 3) ∧ decode b_Model_gang 141 = .ok (.bipush 16, 2) ∧ decode b_Model_gang 143 = .ok (.iload 6, 2) ∧ decode b_Model_gang 145 = .ok (.imul, 1) ∧ decode b_Model_gang 146 = .ok (.iload 8, 2) ∧ decode b_Model_gang 148 = .ok (.iadd, 1) ∧ decode b_Model_gang 149 = .ok (.iload 9, 2) ∧ decode b_Model_gang 151 = .ok (.ifCond .ge 19, 3) ∧ decode b_Model_gang 154 = .ok (.aload_n 0, 1) ∧ decode b_Model_gang 155 = .ok (.getfield 7, 3) ∧ decode b_Model_gang 158 = .ok (.bipush 16, 2) ∧ decode b_Model_gang 160 = .ok (.iload 6, 2) ∧ decode b_Model_gang 162 = .ok (.imul, 1) ∧ decode b_Model_gang 163 = .ok (.iload 8, 2) ∧ decode b_Model_gang 165 = .ok (.iadd, 1) ∧ decode b_Model_gang 166 = .ok (.baload, 1) ∧ decode b_Model_gang 167 = .ok (.goto 6, 3) ∧ decode b_Model_gang 170 = .ok (.iload 9, 2) ∧ decode b_Model_gang 172 = .ok (.i2b, 1) ∧ decode b_Model_gang 173 = .ok (.bastore, 1) ∧ decode b_Model_gang 174 = .ok (.iinc 8 1, 3) ∧ decode b_Model_gang 177 = .ok (.goto (-58), 3) ∧ decode b_Model_gang 180 = .ok (.iinc 5 1, 3) ∧ decode b_Model_gang 183 = .ok (.goto (-138), 3) ∧ decode b_Model_gang 186 = .ok (.aload_n 0, 1) ∧ decode b_Model_gang 187 = .ok (.iconst 0, 1) ∧ decode b_Model_gang 188 = .ok (.iconst (-1), 1) ∧ decode b_Model_gang 189 = .ok (.invokevirtual 155, 3) ∧ decode b_Model_gang 192 = .ok (.pop, 1) ∧ decode b_Model_gang 193 = .ok (.aload_n 0, 1) ∧ decode b_Model_gang 194 = .ok (.getfield 17, 3) ∧ decode b_Model_gang 197 = .ok (.iload_n 2, 1) ∧ decode b_Model_gang 198 = .ok (.iaload, 1) ∧ decode b_Model_gang 199 = .ok (.ireturn, 1) := ⟨d_Model_gang_0, d_Model_gang_1, d_Model_gang_2, d_Model_gang_5, d_Model_gang_8, d_Model_gang_9, d_Model_gang_12, d_Model_gang_15, d_Model_gang_16, d_Model_gang_19, d_Model_gang_22, d_Model_gang_23, d_Model_gang_26, d_Model_gang_27, d_Model_gang_30, d_Model_gang_31, d_Model_gang_34, d_Model_gang_37, d_Model_gang_38, d_Model_gang_39, d_Model_gang_40, d_Model_gang_42, d_Model_gang_43, d_Model_gang_45, d_Model_gang_47, d_Model_gang_48, d_Model_gang_51, d_Model_gang_52, d_Model_gang_53, d_Model_gang_56, d_Model_gang_57, d_Model_gang_58, d_Model_gang_60, d_Model_gang_63, d_Model_gang_65, d_Model_gang_66, d_Model_gang_68, d_Model_gang_69, d_Model_gang_72, d_Model_gang_75, d_Model_gang_76, d_Model_gang_79, d_Model_gang_81, d_Model_gang_83, d_Model_gang_86, d_Model_gang_88, d_Model_gang_91, d_Model_gang_92, d_Model_gang_93, d_Model_gang_95, d_Model_gang_97, d_Model_gang_100, d_Model_gang_102, d_Model_gang_104, d_Model_gang_107, d_Model_gang_108, d_Model_gang_110, d_Model_gang_112, d_Model_gang_115, d_Model_gang_116, d_Model_gang_117, d_Model_gang_119, d_Model_gang_121, d_Model_gang_123, d_Model_gang_126, d_Model_gang_127, d_Model_gang_128, d_Model_gang_130, d_Model_gang_132, d_Model_gang_135, d_Model_gang_137, d_Model_gang_138, d_Model_gang_141, d_Model_gang_143, d_Model_gang_145, d_Model_gang_146, d_Model_gang_148, d_Model_gang_149, d_Model_gang_151, d_Model_gang_154, d_Model_gang_155, d_Model_gang_158, d_Model_gang_160, d_Model_gang_162, d_Model_gang_163, d_Model_gang_165, d_Model_gang_166, d_Model_gang_167, d_Model_gang_170, d_Model_gang_172, d_Model_gang_173, d_Model_gang_174, d_Model_gang_177, d_Model_gang_180, d_Model_gang_183, d_Model_gang_186, d_Model_gang_187, d_Model_gang_188, d_Model_gang_189, d_Model_gang_192, d_Model_gang_193, d_Model_gang_194, d_Model_gang_197, d_Model_gang_198, d_Model_gang_199⟩
theorem v_Model_gang : Cond.instanceMethod y_Model_gang ∈ nm_Ts ∧ Cond.selects y_Model_gang.cls y_Model_gang y_Model_gang ∈ nm_Ts ∧ Cond.initialized y_Model_gang.cls ∈ nm_Ts ∧ Cond.code y_Model_gang b_Model_gang 10 (some .int) ∈ nm_Ts ∧ mz_cl1 y_Model_gang 3 := ⟨nm_t5 34 rfl rfl, nm_t5 35 rfl rfl, nm_t1 12 rfl rfl, nm_t5 36 rfl rfl, by decide +kernel⟩
def y_Model_faultOfGang : MethodName := ⟨"CardOfficeModel", "faultOfGang", "(III)I"⟩
abbrev b_Model_faultOfGang : ByteArray := prog_14_method_38_code
def r_Model_faultOfGang (c s : Nat) : Room := { frames := 3, cells := c, slots := s, locals := 71 }
theorem d_Model_faultOfGang_0 : decode b_Model_faultOfGang 0 = .ok (.iconst 0, 1) := by decide +kernel
theorem d_Model_faultOfGang_1 : decode b_Model_faultOfGang 1 = .ok (.istore 4, 2) := by decide +kernel
theorem d_Model_faultOfGang_3 : decode b_Model_faultOfGang 3 = .ok (.iconst 0, 1) := by decide +kernel
theorem d_Model_faultOfGang_4 : decode b_Model_faultOfGang 4 = .ok (.istore 5, 2) := by decide +kernel
theorem d_Model_faultOfGang_6 : decode b_Model_faultOfGang 6 = .ok (.bipush 40, 2) := by decide +kernel
theorem d_Model_faultOfGang_8 : decode b_Model_faultOfGang 8 = .ok (.iload_n 1, 1) := by decide +kernel
theorem d_Model_faultOfGang_9 : decode b_Model_faultOfGang 9 = .ok (.imul, 1) := by decide +kernel
theorem d_Model_faultOfGang_10 : decode b_Model_faultOfGang 10 = .ok (.istore 6, 2) := by decide +kernel
theorem d_Model_faultOfGang_12 : decode b_Model_faultOfGang 12 = .ok (.iload 6, 2) := by decide +kernel
theorem d_Model_faultOfGang_14 : decode b_Model_faultOfGang 14 = .ok (.bipush 40, 2) := by decide +kernel
theorem d_Model_faultOfGang_16 : decode b_Model_faultOfGang 16 = .ok (.iload_n 1, 1) := by decide +kernel
theorem d_Model_faultOfGang_17 : decode b_Model_faultOfGang 17 = .ok (.imul, 1) := by decide +kernel
theorem d_Model_faultOfGang_18 : decode b_Model_faultOfGang 18 = .ok (.aload_n 0, 1) := by decide +kernel
theorem d_Model_faultOfGang_19 : decode b_Model_faultOfGang 19 = .ok (.getfield 33, 3) := by decide +kernel
theorem d_Model_faultOfGang_22 : decode b_Model_faultOfGang 22 = .ok (.iload_n 1, 1) := by decide +kernel
theorem d_Model_faultOfGang_23 : decode b_Model_faultOfGang 23 = .ok (.iaload, 1) := by decide +kernel
theorem d_Model_faultOfGang_24 : decode b_Model_faultOfGang 24 = .ok (.iadd, 1) := by decide +kernel
theorem d_Model_faultOfGang_25 : decode b_Model_faultOfGang 25 = .ok (.if_icmp .ge 105, 3) := by decide +kernel
theorem d_Model_faultOfGang_28 : decode b_Model_faultOfGang 28 = .ok (.aload_n 0, 1) := by decide +kernel
theorem d_Model_faultOfGang_29 : decode b_Model_faultOfGang 29 = .ok (.iload 6, 2) := by decide +kernel
theorem d_Model_faultOfGang_31 : decode b_Model_faultOfGang 31 = .ok (.iload_n 2, 1) := by decide +kernel
theorem d_Model_faultOfGang_32 : decode b_Model_faultOfGang 32 = .ok (.invokevirtual 95, 3) := by decide +kernel
theorem d_Model_faultOfGang_35 : decode b_Model_faultOfGang 35 = .ok (.istore 7, 2) := by decide +kernel
theorem d_Model_faultOfGang_37 : decode b_Model_faultOfGang 37 = .ok (.aload_n 0, 1) := by decide +kernel
theorem d_Model_faultOfGang_38 : decode b_Model_faultOfGang 38 = .ok (.getfield 30, 3) := by decide +kernel
theorem d_Model_faultOfGang_41 : decode b_Model_faultOfGang 41 = .ok (.iload 6, 2) := by decide +kernel
theorem d_Model_faultOfGang_43 : decode b_Model_faultOfGang 43 = .ok (.baload, 1) := by decide +kernel
theorem d_Model_faultOfGang_44 : decode b_Model_faultOfGang 44 = .ok (.bipush 16, 2) := by decide +kernel
theorem d_Model_faultOfGang_46 : decode b_Model_faultOfGang 46 = .ok (.if_icmp .ge 78, 3) := by decide +kernel
theorem d_Model_faultOfGang_49 : decode b_Model_faultOfGang 49 = .ok (.iload 7, 2) := by decide +kernel
theorem d_Model_faultOfGang_51 : decode b_Model_faultOfGang 51 = .ok (.ifCond .lt 73, 3) := by decide +kernel
theorem d_Model_faultOfGang_54 : decode b_Model_faultOfGang 54 = .ok (.aload_n 0, 1) := by decide +kernel
theorem d_Model_faultOfGang_55 : decode b_Model_faultOfGang 55 = .ok (.iload_n 3, 1) := by decide +kernel
theorem d_Model_faultOfGang_56 : decode b_Model_faultOfGang 56 = .ok (.aload_n 0, 1) := by decide +kernel
theorem d_Model_faultOfGang_57 : decode b_Model_faultOfGang 57 = .ok (.getfield 30, 3) := by decide +kernel
theorem d_Model_faultOfGang_60 : decode b_Model_faultOfGang 60 = .ok (.iload 6, 2) := by decide +kernel
theorem d_Model_faultOfGang_62 : decode b_Model_faultOfGang 62 = .ok (.baload, 1) := by decide +kernel
theorem d_Model_faultOfGang_63 : decode b_Model_faultOfGang 63 = .ok (.invokevirtual 91, 3) := by decide +kernel
theorem d_Model_faultOfGang_66 : decode b_Model_faultOfGang 66 = .ok (.istore 8, 2) := by decide +kernel
theorem d_Model_faultOfGang_68 : decode b_Model_faultOfGang 68 = .ok (.iload 5, 2) := by decide +kernel
theorem d_Model_faultOfGang_70 : decode b_Model_faultOfGang 70 = .ok (.ifCond .ne 17, 3) := by decide +kernel
theorem d_Model_faultOfGang_73 : decode b_Model_faultOfGang 73 = .ok (.iload 8, 2) := by decide +kernel
theorem d_Model_faultOfGang_75 : decode b_Model_faultOfGang 75 = .ok (.bipush 32, 2) := by decide +kernel
theorem d_Model_faultOfGang_77 : decode b_Model_faultOfGang 77 = .ok (.if_icmp .eq 14, 3) := by decide +kernel
theorem d_Model_faultOfGang_80 : decode b_Model_faultOfGang 80 = .ok (.iload 8, 2) := by decide +kernel
theorem d_Model_faultOfGang_82 : decode b_Model_faultOfGang 82 = .ok (.iload 7, 2) := by decide +kernel
theorem d_Model_faultOfGang_84 : decode b_Model_faultOfGang 84 = .ok (.if_icmp .eq 7, 3) := by decide +kernel
theorem d_Model_faultOfGang_87 : decode b_Model_faultOfGang 87 = .ok (.iconst 1, 1) := by decide +kernel
theorem d_Model_faultOfGang_88 : decode b_Model_faultOfGang 88 = .ok (.goto 4, 3) := by decide +kernel
theorem d_Model_faultOfGang_91 : decode b_Model_faultOfGang 91 = .ok (.iconst 0, 1) := by decide +kernel
theorem d_Model_faultOfGang_92 : decode b_Model_faultOfGang 92 = .ok (.istore 5, 2) := by decide +kernel
theorem d_Model_faultOfGang_94 : decode b_Model_faultOfGang 94 = .ok (.iload 4, 2) := by decide +kernel
theorem d_Model_faultOfGang_96 : decode b_Model_faultOfGang 96 = .ok (.ifCond .ne 21, 3) := by decide +kernel
theorem d_Model_faultOfGang_99 : decode b_Model_faultOfGang 99 = .ok (.aload_n 0, 1) := by decide +kernel
theorem d_Model_faultOfGang_100 : decode b_Model_faultOfGang 100 = .ok (.iload_n 1, 1) := by decide +kernel
theorem d_Model_faultOfGang_101 : decode b_Model_faultOfGang 101 = .ok (.aload_n 0, 1) := by decide +kernel
theorem d_Model_faultOfGang_102 : decode b_Model_faultOfGang 102 = .ok (.getfield 30, 3) := by decide +kernel
theorem d_Model_faultOfGang_105 : decode b_Model_faultOfGang 105 = .ok (.iload 6, 2) := by decide +kernel
theorem d_Model_faultOfGang_107 : decode b_Model_faultOfGang 107 = .ok (.baload, 1) := by decide +kernel
theorem d_Model_faultOfGang_108 : decode b_Model_faultOfGang 108 = .ok (.iload_n 2, 1) := by decide +kernel
theorem d_Model_faultOfGang_109 : decode b_Model_faultOfGang 109 = .ok (.invokevirtual 151, 3) := by decide +kernel
theorem d_Model_faultOfGang_112 : decode b_Model_faultOfGang 112 = .ok (.bipush (-2), 2) := by decide +kernel
theorem d_Model_faultOfGang_114 : decode b_Model_faultOfGang 114 = .ok (.if_icmp .ne 7, 3) := by decide +kernel
theorem d_Model_faultOfGang_117 : decode b_Model_faultOfGang 117 = .ok (.iconst 1, 1) := by decide +kernel
theorem d_Model_faultOfGang_118 : decode b_Model_faultOfGang 118 = .ok (.goto 4, 3) := by decide +kernel
theorem d_Model_faultOfGang_121 : decode b_Model_faultOfGang 121 = .ok (.iconst 0, 1) := by decide +kernel
theorem d_Model_faultOfGang_122 : decode b_Model_faultOfGang 122 = .ok (.istore 4, 2) := by decide +kernel
theorem d_Model_faultOfGang_124 : decode b_Model_faultOfGang 124 = .ok (.iinc 6 1, 3) := by decide +kernel
theorem d_Model_faultOfGang_127 : decode b_Model_faultOfGang 127 = .ok (.goto (-115), 3) := by decide +kernel
theorem d_Model_faultOfGang_130 : decode b_Model_faultOfGang 130 = .ok (.iload 5, 2) := by decide +kernel
theorem d_Model_faultOfGang_132 : decode b_Model_faultOfGang 132 = .ok (.ifCond .eq 7, 3) := by decide +kernel
theorem d_Model_faultOfGang_135 : decode b_Model_faultOfGang 135 = .ok (.iconst 1, 1) := by decide +kernel
theorem d_Model_faultOfGang_136 : decode b_Model_faultOfGang 136 = .ok (.goto 13, 3) := by decide +kernel
theorem d_Model_faultOfGang_139 : decode b_Model_faultOfGang 139 = .ok (.iload 4, 2) := by decide +kernel
theorem d_Model_faultOfGang_141 : decode b_Model_faultOfGang 141 = .ok (.ifCond .eq 7, 3) := by decide +kernel
theorem d_Model_faultOfGang_144 : decode b_Model_faultOfGang 144 = .ok (.iconst 2, 1) := by decide +kernel
theorem d_Model_faultOfGang_145 : decode b_Model_faultOfGang 145 = .ok (.goto 4, 3) := by decide +kernel
theorem d_Model_faultOfGang_148 : decode b_Model_faultOfGang 148 = .ok (.iconst 0, 1) := by decide +kernel
theorem d_Model_faultOfGang_149 : decode b_Model_faultOfGang 149 = .ok (.ireturn, 1) := by decide +kernel
theorem d_Model_faultOfGang : decode b_Model_faultOfGang 0 = .ok (.iconst 0, 1) ∧ decode b_Model_faultOfGang 1 = .ok (.istore 4, 2) ∧ decode b_Model_faultOfGang 3 = .ok (.iconst 0, 1) ∧ decode b_Model_faultOfGang 4 = .ok (.istore 5, 2) ∧ decode b_Model_faultOfGang 6 = .ok (.bipush 40, 2) ∧ decode b_Model_faultOfGang 8 = .ok (.iload_n 1, 1) ∧ decode b_Model_faultOfGang 9 = .ok (.imul, 1) ∧ decode b_Model_faultOfGang 10 = .ok (.istore 6, 2) ∧ decode b_Model_faultOfGang 12 = .ok (.iload 6, 2) ∧ decode b_Model_faultOfGang 14 = .ok (.bipush 40, 2) ∧ decode b_Model_faultOfGang 16 = .ok (.iload_n 1, 1) ∧ decode b_Model_faultOfGang 17 = .ok (.imul, 1) ∧ decode b_Model_faultOfGang 18 = .ok (.aload_n 0, 1) ∧ decode b_Model_faultOfGang 19 = .ok (.getfield 33, 3) ∧ decode b_Model_faultOfGang 22 = .ok (.iload_n 1, 1) ∧ decode b_Model_faultOfGang 23 = .ok (.iaload, 1) ∧ decode b_Model_faultOfGang 24 = .ok (.iadd, 1) ∧ decode b_Model_faultOfGang 25 = .ok (.if_icmp .ge 105, 3) ∧ decode b_Model_faultOfGang 28 = .ok (.aload_n 0, 1) ∧ decode b_Model_faultOfGang 29 = .ok (.iload 6, 2) ∧ decode b_Model_faultOfGang 31 = .ok (.iload_n 2, 1) ∧ decode b_Model_faultOfGang 32 = .ok (.invokevirtual 95, 3) ∧ decode b_Model_faultOfGang 35 = .ok (.istore 7, 2) ∧ decode b_Model_faultOfGang 37 = .ok (.aload_n 0, 1) ∧ decode b_Model_faultOfGang 38 = .ok (.getfield 30, 3) ∧ decode b_Model_faultOfGang 41 = .ok (.iload 6, 2) ∧ decode b_Model_faultOfGang 43 = .ok (.baload, 1) ∧ decode b_Model_faultOfGang 44 = .ok (.bipush 16, 2) ∧ decode b_Model_faultOfGang 46 = .ok (.if_icmp .ge 78, 3) ∧ decode b_Model_faultOfGang 49 = .ok (.iload 7, 2) ∧ decode b_Model_faultOfGang 51 = .ok (.ifCond .lt 73, 3) ∧ decode b_Model_faultOfGang 54 = .ok (.aload_n 0, 1) ∧ decode b_Model_faultOfGang 55 = .ok (.iload_n 3, 1) ∧ decode b_Model_faultOfGang 56 = .ok (.aload_n 0, 1) ∧ decode b_Model_faultOfGang 57 = .ok (.getfield 30, 3) ∧ decode b_Model_faultOfGang 60 = .ok (.iload 6, 2) ∧ decode b_Model_faultOfGang 62 = .ok (.baload, 1) ∧ decode b_Model_faultOfGang 63 = .ok (.invokevirtual 91, 3) ∧ decode b_Model_faultOfGang 66 = .ok (.istore 8, 2) ∧ decode b_Model_faultOfGang 68 = .ok (.iload 5, 2) ∧ decode b_Model_faultOfGang 70 = .ok (.ifCond .ne 17, 3) ∧ decode b_Model_faultOfGang 73 = .ok (.iload 8, 2) ∧ decode b_Model_faultOfGang 75 = .ok (.bipush 32, 2) ∧ decode b_Model_faultOfGang 77 = .ok (.if_icmp .eq 14, 3) ∧ decode b_Model_faultOfGang 80 = .ok (.iload 8, 2) ∧ decode b_Model_faultOfGang 82 = .ok (.iload 7, 2) ∧ decode b_Model_faultOfGang 84 = .ok (.if_icmp .eq 7, 3) ∧ decode b_Model_faultOfGang 87 = .ok (.iconst 1, 1) ∧ decode b_Model_faultOfGang 88 = .ok (.goto 4, 3) ∧ decode b_Model_faultOfGang 91 = .ok (.iconst 0, 1) ∧ decode b_Model_faultOfGang 92 = .ok (.istore 5, 2) ∧ decode b_Model_faultOfGang 94 = .ok (.iload 4, 2) ∧ decode b_Model_faultOfGang 96 = .ok (.ifCond .ne 21, 3) ∧ decode b_Model_faultOfGang 99 = .ok (.aload_n 0, 1) ∧ decode b_Model_faultOfGang 100 = .ok (.iload_n 1, 1) ∧ decode b_Model_faultOfGang 101 = .ok (.aload_n 0, 1) ∧ decode b_Model_faultOfGang 102 = .ok (.getfield 30, 3) ∧ decode b_Model_faultOfGang 105 = .ok (.iload 6, 2) ∧ decode b_Model_faultOfGang 107 = .ok (.baload, 1) ∧ decode b_Model_faultOfGang 108 = .ok (.iload_n 2, 1) ∧ decode b_Model_faultOfGang 109 = .ok (.invokevirtual 151, 3) ∧ decode b_Model_faultOfGang 112 = .ok (.bipush (-2), 2) ∧ decode b_Model_faultOfGang 114 = .ok (.if_icmp .ne 7, 3) ∧ decode b_Model_faultOfGang 117 = .ok (.iconst 1, 1) ∧ decode b_Model_faultOfGang 118 = .ok (.goto 4, 3) ∧ decode b_Model_faultOfGang 121 = .ok (.iconst 0, 1) ∧ decode b_Model_faultOfGang 122 = .ok (.istore 4, 2) ∧ decode b_Model_faultOfGang 124 = .ok (.iinc 6 1, 3) ∧ decode b_Model_faultOfGang 127 = .ok (.goto (-115), 3) ∧ decode b_Model_faultOfGang 130 = .ok (.iload 5, 2) ∧ decode b_Model_faultOfGang 132 = .ok (.ifCond .eq 7, 3) ∧ decode b_Model_faultOfGang 135 = .ok (.iconst 1, 1) ∧ decode b_Model_faultOfGang 136 = .ok (.goto 13, 3) ∧ decode b_Model_faultOfGang 139 = .ok (.iload 4, 2) ∧ decode b_Model_faultOfGang 141 = .ok (.ifCond .eq 7, 3) ∧ decode b_Model_faultOfGang 144 = .ok (.iconst 2, 1) ∧ decode b_Model_faultOfGang 145 = .ok (.goto 4, 3) ∧ decode b_Model_faultOfGang 148 = .ok (.iconst 0, 1) ∧ decode b_Model_faultOfGang 149 = .ok (.ireturn, 1) := ⟨d_Model_faultOfGang_0, d_Model_faultOfGang_1, d_Model_faultOfGang_3, d_Model_faultOfGang_4, d_Model_faultOfGang_6, d_Model_faultOfGang_8, d_Model_faultOfGang_9, d_Model_faultOfGang_10, d_Model_faultOfGang_12, d_Model_faultOfGang_14, d_Model_faultOfGang_16, d_Model_faultOfGang_17, d_Model_faultOfGang_18, d_Model_faultOfGang_19, d_Model_faultOfGang_22, d_Model_faultOfGang_23, d_Model_faultOfGang_24, d_Model_faultOfGang_25, d_Model_faultOfGang_28, d_Model_faultOfGang_29, d_Model_faultOfGang_31, d_Model_faultOfGang_32, d_Model_faultOfGang_35, d_Model_faultOfGang_37, d_Model_faultOfGang_38, d_Model_faultOfGang_41, d_Model_faultOfGang_43, d_Model_faultOfGang_44, d_Model_faultOfGang_46, d_Model_faultOfGang_49, d_Model_faultOfGang_51, d_Model_faultOfGang_54, d_Model_faultOfGang_55, d_Model_faultOfGang_56, d_Model_faultOfGang_57, d_Model_faultOfGang_60, d_Model_faultOfGang_62, d_Model_faultOfGang_63, d_Model_faultOfGang_66, d_Model_faultOfGang_68, d_Model_faultOfGang_70, d_Model_faultOfGang_73, d_Model_faultOfGang_75, d_Model_faultOfGang_77, d_Model_faultOfGang_80, d_Model_faultOfGang_82, d_Model_faultOfGang_84, d_Model_faultOfGang_87, d_Model_faultOfGang_88, d_Model_faultOfGang_91, d_Model_faultOfGang_92, d_Model_faultOfGang_94, d_Model_faultOfGang_96, d_Model_faultOfGang_99, d_Model_faultOfGang_100, d_Model_faultOfGang_101, d_Model_faultOfGang_102, d_Model_faultOfGang_105, d_Model_faultOfGang_107, d_Model_faultOfGang_108, d_Model_faultOfGang_109, d_Model_faultOfGang_112, d_Model_faultOfGang_114, d_Model_faultOfGang_117, d_Model_faultOfGang_118, d_Model_faultOfGang_121, d_Model_faultOfGang_122, d_Model_faultOfGang_124, d_Model_faultOfGang_127, d_Model_faultOfGang_130, d_Model_faultOfGang_132, d_Model_faultOfGang_135, d_Model_faultOfGang_136, d_Model_faultOfGang_139, d_Model_faultOfGang_141, d_Model_faultOfGang_144, d_Model_faultOfGang_145, d_Model_faultOfGang_148, d_Model_faultOfGang_149⟩
theorem v_Model_faultOfGang : Cond.instanceMethod y_Model_faultOfGang ∈ nm_Ts ∧ Cond.selects y_Model_faultOfGang.cls y_Model_faultOfGang y_Model_faultOfGang ∈ nm_Ts ∧ Cond.initialized y_Model_faultOfGang.cls ∈ nm_Ts ∧ Cond.code y_Model_faultOfGang b_Model_faultOfGang 9 (some .int) ∈ nm_Ts ∧ mz_cl1 y_Model_faultOfGang 3 := ⟨nm_t5 39 rfl rfl, nm_s 34 rfl rfl, nm_t1 12 rfl rfl, nm_t5 40 rfl rfl, by decide +kernel⟩
def y_Model_multiply : MethodName := ⟨"CardOfficeModel", "multiply", "(IIII)I"⟩
abbrev b_Model_multiply : ByteArray := prog_14_method_44_code
def r_Model_multiply (c s : Nat) : Room := { frames := 2, cells := c, slots := s, locals := 52 }
theorem d_Model_multiply_0 : decode b_Model_multiply 0 = .ok (.iload_n 1, 1) := by decide +kernel
theorem d_Model_multiply_1 : decode b_Model_multiply 1 = .ok (.invokestatic 65, 3) := by decide +kernel
theorem d_Model_multiply_4 : decode b_Model_multiply 4 = .ok (.ifCond .eq 47, 3) := by decide +kernel
theorem d_Model_multiply_7 : decode b_Model_multiply 7 = .ok (.iload_n 2, 1) := by decide +kernel
theorem d_Model_multiply_8 : decode b_Model_multiply 8 = .ok (.invokestatic 163, 3) := by decide +kernel
theorem d_Model_multiply_11 : decode b_Model_multiply 11 = .ok (.ifCond .eq 40, 3) := by decide +kernel
theorem d_Model_multiply_14 : decode b_Model_multiply 14 = .ok (.iload_n 3, 1) := by decide +kernel
theorem d_Model_multiply_15 : decode b_Model_multiply 15 = .ok (.invokestatic 163, 3) := by decide +kernel
theorem d_Model_multiply_18 : decode b_Model_multiply 18 = .ok (.ifCond .eq 33, 3) := by decide +kernel
theorem d_Model_multiply_21 : decode b_Model_multiply 21 = .ok (.iload 4, 2) := by decide +kernel
theorem d_Model_multiply_23 : decode b_Model_multiply 23 = .ok (.invokestatic 163, 3) := by decide +kernel
theorem d_Model_multiply_26 : decode b_Model_multiply 26 = .ok (.ifCond .eq 25, 3) := by decide +kernel
theorem d_Model_multiply_29 : decode b_Model_multiply 29 = .ok (.iload 4, 2) := by decide +kernel
theorem d_Model_multiply_31 : decode b_Model_multiply 31 = .ok (.iload_n 2, 1) := by decide +kernel
theorem d_Model_multiply_32 : decode b_Model_multiply 32 = .ok (.invokestatic 166, 3) := by decide +kernel
theorem d_Model_multiply_35 : decode b_Model_multiply 35 = .ok (.ifCond .ne 16, 3) := by decide +kernel
theorem d_Model_multiply_38 : decode b_Model_multiply 38 = .ok (.iload 4, 2) := by decide +kernel
theorem d_Model_multiply_40 : decode b_Model_multiply 40 = .ok (.iload_n 3, 1) := by decide +kernel
theorem d_Model_multiply_41 : decode b_Model_multiply 41 = .ok (.invokestatic 166, 3) := by decide +kernel
theorem d_Model_multiply_44 : decode b_Model_multiply 44 = .ok (.ifCond .ne 7, 3) := by decide +kernel
theorem d_Model_multiply_47 : decode b_Model_multiply 47 = .ok (.iconst 1, 1) := by decide +kernel
theorem d_Model_multiply_48 : decode b_Model_multiply 48 = .ok (.goto 4, 3) := by decide +kernel
theorem d_Model_multiply_51 : decode b_Model_multiply 51 = .ok (.iconst 0, 1) := by decide +kernel
theorem d_Model_multiply_52 : decode b_Model_multiply 52 = .ok (.istore 5, 2) := by decide +kernel
theorem d_Model_multiply_54 : decode b_Model_multiply 54 = .ok (.aload_n 0, 1) := by decide +kernel
theorem d_Model_multiply_55 : decode b_Model_multiply 55 = .ok (.iload 5, 2) := by decide +kernel
theorem d_Model_multiply_57 : decode b_Model_multiply 57 = .ok (.ifCond .eq 7, 3) := by decide +kernel
theorem d_Model_multiply_60 : decode b_Model_multiply 60 = .ok (.iconst 0, 1) := by decide +kernel
theorem d_Model_multiply_61 : decode b_Model_multiply 61 = .ok (.goto 4, 3) := by decide +kernel
theorem d_Model_multiply_64 : decode b_Model_multiply 64 = .ok (.iconst 1, 1) := by decide +kernel
theorem d_Model_multiply_65 : decode b_Model_multiply 65 = .ok (.putfield 52, 3) := by decide +kernel
theorem d_Model_multiply_68 : decode b_Model_multiply 68 = .ok (.iload 5, 2) := by decide +kernel
theorem d_Model_multiply_70 : decode b_Model_multiply 70 = .ok (.ifCond .ne 5, 3) := by decide +kernel
theorem d_Model_multiply_73 : decode b_Model_multiply 73 = .ok (.iconst 0, 1) := by decide +kernel
theorem d_Model_multiply_74 : decode b_Model_multiply 74 = .ok (.ireturn, 1) := by decide +kernel
theorem d_Model_multiply_75 : decode b_Model_multiply 75 = .ok (.iconst 0, 1) := by decide +kernel
theorem d_Model_multiply_76 : decode b_Model_multiply 76 = .ok (.istore 6, 2) := by decide +kernel
theorem d_Model_multiply_78 : decode b_Model_multiply 78 = .ok (.iload 6, 2) := by decide +kernel
theorem d_Model_multiply_80 : decode b_Model_multiply 80 = .ok (.aload_n 0, 1) := by decide +kernel
theorem d_Model_multiply_81 : decode b_Model_multiply 81 = .ok (.getfield 17, 3) := by decide +kernel
theorem d_Model_multiply_84 : decode b_Model_multiply 84 = .ok (.iload_n 1, 1) := by decide +kernel
theorem d_Model_multiply_85 : decode b_Model_multiply 85 = .ok (.iaload, 1) := by decide +kernel
theorem d_Model_multiply_86 : decode b_Model_multiply 86 = .ok (.if_icmp .ge 142, 3) := by decide +kernel
theorem d_Model_multiply_89 : decode b_Model_multiply 89 = .ok (.aload_n 0, 1) := by decide +kernel
theorem d_Model_multiply_90 : decode b_Model_multiply 90 = .ok (.iload_n 1, 1) := by decide +kernel
theorem d_Model_multiply_91 : decode b_Model_multiply 91 = .ok (.iload 6, 2) := by decide +kernel
theorem d_Model_multiply_93 : decode b_Model_multiply 93 = .ok (.invokevirtual 98, 3) := by decide +kernel
theorem d_Model_multiply_96 : decode b_Model_multiply 96 = .ok (.istore 7, 2) := by decide +kernel
theorem d_Model_multiply_98 : decode b_Model_multiply 98 = .ok (.aload_n 0, 1) := by decide +kernel
theorem d_Model_multiply_99 : decode b_Model_multiply 99 = .ok (.iload 7, 2) := by decide +kernel
theorem d_Model_multiply_101 : decode b_Model_multiply 101 = .ok (.iload_n 2, 1) := by decide +kernel
theorem d_Model_multiply_102 : decode b_Model_multiply 102 = .ok (.invokevirtual 169, 3) := by decide +kernel
theorem d_Model_multiply_105 : decode b_Model_multiply 105 = .ok (.istore 8, 2) := by decide +kernel
theorem d_Model_multiply_107 : decode b_Model_multiply 107 = .ok (.aload_n 0, 1) := by decide +kernel
theorem d_Model_multiply_108 : decode b_Model_multiply 108 = .ok (.iload 7, 2) := by decide +kernel
theorem d_Model_multiply_110 : decode b_Model_multiply 110 = .ok (.iload_n 3, 1) := by decide +kernel
theorem d_Model_multiply_111 : decode b_Model_multiply 111 = .ok (.invokevirtual 169, 3) := by decide +kernel
theorem d_Model_multiply_114 : decode b_Model_multiply 114 = .ok (.istore 9, 2) := by decide +kernel
theorem d_Model_multiply_116 : decode b_Model_multiply 116 = .ok (.iload 8, 2) := by decide +kernel
theorem d_Model_multiply_118 : decode b_Model_multiply 118 = .ok (.ifCond .lt 8, 3) := by decide +kernel
theorem d_Model_multiply_121 : decode b_Model_multiply 121 = .ok (.iload 9, 2) := by decide +kernel
theorem d_Model_multiply_123 : decode b_Model_multiply 123 = .ok (.ifCond .ge 11, 3) := by decide +kernel
theorem d_Model_multiply_126 : decode b_Model_multiply 126 = .ok (.aload_n 0, 1) := by decide +kernel
theorem d_Model_multiply_127 : decode b_Model_multiply 127 = .ok (.iconst 1, 1) := by decide +kernel
theorem d_Model_multiply_128 : decode b_Model_multiply 128 = .ok (.iload 6, 2) := by decide +kernel
theorem d_Model_multiply_130 : decode b_Model_multiply 130 = .ok (.invokevirtual 155, 3) := by decide +kernel
theorem d_Model_multiply_133 : decode b_Model_multiply 133 = .ok (.ireturn, 1) := by decide +kernel
theorem d_Model_multiply_134 : decode b_Model_multiply 134 = .ok (.iload 8, 2) := by decide +kernel
theorem d_Model_multiply_136 : decode b_Model_multiply 136 = .ok (.i2l, 1) := by decide +kernel
theorem d_Model_multiply_137 : decode b_Model_multiply 137 = .ok (.iload 9, 2) := by decide +kernel
theorem d_Model_multiply_139 : decode b_Model_multiply 139 = .ok (.i2l, 1) := by decide +kernel
theorem d_Model_multiply_140 : decode b_Model_multiply 140 = .ok (.lmul, 1) := by decide +kernel
theorem d_Model_multiply_141 : decode b_Model_multiply 141 = .ok (.ldc2_w 172, 3) := by decide +kernel
theorem d_Model_multiply_144 : decode b_Model_multiply 144 = .ok (.ladd, 1) := by decide +kernel
theorem d_Model_multiply_145 : decode b_Model_multiply 145 = .ok (.ldc2_w 161, 3) := by decide +kernel
theorem d_Model_multiply_148 : decode b_Model_multiply 148 = .ok (.ldiv, 1) := by decide +kernel
theorem d_Model_multiply_149 : decode b_Model_multiply 149 = .ok (.lstore 10, 2) := by decide +kernel
theorem d_Model_multiply_151 : decode b_Model_multiply 151 = .ok (.lload 10, 2) := by decide +kernel
theorem d_Model_multiply_153 : decode b_Model_multiply 153 = .ok (.iconst 1, 1) := by decide +kernel
theorem d_Model_multiply_154 : decode b_Model_multiply 154 = .ok (.iload 4, 2) := by decide +kernel
theorem d_Model_multiply_156 : decode b_Model_multiply 156 = .ok (.bipush 16, 2) := by decide +kernel
theorem d_Model_multiply_158 : decode b_Model_multiply 158 = .ok (.idiv, 1) := by decide +kernel
theorem d_Model_multiply_159 : decode b_Model_multiply 159 = .ok (.iadd, 1) := by decide +kernel
theorem d_Model_multiply_160 : decode b_Model_multiply 160 = .ok (.invokestatic 174, 3) := by decide +kernel
theorem d_Model_multiply_163 : decode b_Model_multiply 163 = .ok (.lcmp, 1) := by decide +kernel
theorem d_Model_multiply_164 : decode b_Model_multiply 164 = .ok (.ifCond .lt 7, 3) := by decide +kernel
theorem d_Model_multiply_167 : decode b_Model_multiply 167 = .ok (.iconst 1, 1) := by decide +kernel
theorem d_Model_multiply_168 : decode b_Model_multiply 168 = .ok (.goto 4, 3) := by decide +kernel
theorem d_Model_multiply_171 : decode b_Model_multiply 171 = .ok (.iconst 0, 1) := by decide +kernel
theorem d_Model_multiply_172 : decode b_Model_multiply 172 = .ok (.istore 12, 2) := by decide +kernel
theorem d_Model_multiply_174 : decode b_Model_multiply 174 = .ok (.iload 12, 2) := by decide +kernel
theorem d_Model_multiply_176 : decode b_Model_multiply 176 = .ok (.ifCond .eq 11, 3) := by decide +kernel
theorem d_Model_multiply_179 : decode b_Model_multiply 179 = .ok (.aload_n 0, 1) := by decide +kernel
theorem d_Model_multiply_180 : decode b_Model_multiply 180 = .ok (.iconst 3, 1) := by decide +kernel
theorem d_Model_multiply_181 : decode b_Model_multiply 181 = .ok (.iload 6, 2) := by decide +kernel
theorem d_Model_multiply_183 : decode b_Model_multiply 183 = .ok (.invokevirtual 155, 3) := by decide +kernel
theorem d_Model_multiply_186 : decode b_Model_multiply 186 = .ok (.ireturn, 1) := by decide +kernel
theorem d_Model_multiply_187 : decode b_Model_multiply 187 = .ok (.aload_n 0, 1) := by decide +kernel
theorem d_Model_multiply_188 : decode b_Model_multiply 188 = .ok (.iload 7, 2) := by decide +kernel
theorem d_Model_multiply_190 : decode b_Model_multiply 190 = .ok (.iload 4, 2) := by decide +kernel
theorem d_Model_multiply_192 : decode b_Model_multiply 192 = .ok (.lload 10, 2) := by decide +kernel
theorem d_Model_multiply_194 : decode b_Model_multiply 194 = .ok (.iconst 0, 1) := by decide +kernel
theorem d_Model_multiply_195 : decode b_Model_multiply 195 = .ok (.invokevirtual 178, 3) := by decide +kernel
theorem d_Model_multiply_198 : decode b_Model_multiply 198 = .ok (.ifCond .ne 11, 3) := by decide +kernel
theorem d_Model_multiply_201 : decode b_Model_multiply 201 = .ok (.aload_n 0, 1) := by decide +kernel
theorem d_Model_multiply_202 : decode b_Model_multiply 202 = .ok (.iconst 1, 1) := by decide +kernel
theorem d_Model_multiply_203 : decode b_Model_multiply 203 = .ok (.iload 6, 2) := by decide +kernel
theorem d_Model_multiply_205 : decode b_Model_multiply 205 = .ok (.invokevirtual 155, 3) := by decide +kernel
theorem d_Model_multiply_208 : decode b_Model_multiply 208 = .ok (.ireturn, 1) := by decide +kernel
theorem d_Model_multiply_209 : decode b_Model_multiply 209 = .ok (.aload_n 0, 1) := by decide +kernel
theorem d_Model_multiply_210 : decode b_Model_multiply 210 = .ok (.iload 7, 2) := by decide +kernel
theorem d_Model_multiply_212 : decode b_Model_multiply 212 = .ok (.iload 4, 2) := by decide +kernel
theorem d_Model_multiply_214 : decode b_Model_multiply 214 = .ok (.lload 10, 2) := by decide +kernel
theorem d_Model_multiply_216 : decode b_Model_multiply 216 = .ok (.iconst 1, 1) := by decide +kernel
theorem d_Model_multiply_217 : decode b_Model_multiply 217 = .ok (.invokevirtual 178, 3) := by decide +kernel
theorem d_Model_multiply_220 : decode b_Model_multiply 220 = .ok (.istore 5, 2) := by decide +kernel
theorem d_Model_multiply_222 : decode b_Model_multiply 222 = .ok (.iinc 6 1, 3) := by decide +kernel
theorem d_Model_multiply_225 : decode b_Model_multiply 225 = .ok (.goto (-147), 3) := by decide +kernel
theorem d_Model_multiply_228 : decode b_Model_multiply 228 = .ok (.aload_n 0, 1) := by decide +kernel
theorem d_Model_multiply_229 : decode b_Model_multiply 229 = .ok (.iconst 0, 1) := by decide +kernel
theorem d_Model_multiply_230 : decode b_Model_multiply 230 = .ok (.iconst (-1), 1) := by decide +kernel
theorem d_Model_multiply_231 : decode b_Model_multiply 231 = .ok (.invokevirtual 155, 3) := by decide +kernel
theorem d_Model_multiply_234 : decode b_Model_multiply 234 = .ok (.pop, 1) := by decide +kernel
theorem d_Model_multiply_235 : decode b_Model_multiply 235 = .ok (.aload_n 0, 1) := by decide +kernel
theorem d_Model_multiply_236 : decode b_Model_multiply 236 = .ok (.getfield 17, 3) := by decide +kernel
theorem d_Model_multiply_239 : decode b_Model_multiply 239 = .ok (.iload_n 1, 1) := by decide +kernel
theorem d_Model_multiply_240 : decode b_Model_multiply 240 = .ok (.iaload, 1) := by decide +kernel
theorem d_Model_multiply_241 : decode b_Model_multiply 241 = .ok (.ireturn, 1) := by decide +kernel
theorem d_Model_multiply : decode b_Model_multiply 0 = .ok (.iload_n 1, 1) ∧ decode b_Model_multiply 1 = .ok (.invokestatic 65, 3) ∧ decode b_Model_multiply 4 = .ok (.ifCond .eq 47, 3) ∧ decode b_Model_multiply 7 = .ok (.iload_n 2, 1) ∧ decode b_Model_multiply 8 = .ok (.invokestatic 163, 3) ∧ decode b_Model_multiply 11 = .ok (.ifCond .eq 40, 3) ∧ decode b_Model_multiply 14 = .ok (.iload_n 3, 1) ∧ decode b_Model_multiply 15 = .ok (.invokestatic 163, 3) ∧ decode b_Model_multiply 18 = .ok (.ifCond .eq 33, 3) ∧ decode b_Model_multiply 21 = .ok (.iload 4, 2) ∧ decode b_Model_multiply 23 = .ok (.invokestatic 163, 3) ∧ decode b_Model_multiply 26 = .ok (.ifCond .eq 25, 3) ∧ decode b_Model_multiply 29 = .ok (.iload 4, 2) ∧ decode b_Model_multiply 31 = .ok (.iload_n 2, 1) ∧ decode b_Model_multiply 32 = .ok (.invokestatic 166, 3) ∧ decode b_Model_multiply 35 = .ok (.ifCond .ne 16, 3) ∧ decode b_Model_multiply 38 = .ok (.iload 4, 2) ∧ decode b_Model_multiply 40 = .ok (.iload_n 3, 1) ∧ decode b_Model_multiply 41 = .ok (.invokestatic 166, 3) ∧ decode b_Model_multiply 44 = .ok (.ifCond .ne 7, 3) ∧ decode b_Model_multiply 47 = .ok (.iconst 1, 1) ∧ decode b_Model_multiply 48 = .ok (.goto 4, 3) ∧ decode b_Model_multiply 51 = .ok (.iconst 0, 1) ∧ decode b_Model_multiply 52 = .ok (.istore 5, 2) ∧ decode b_Model_multiply 54 = .ok (.aload_n 0, 1) ∧ decode b_Model_multiply 55 = .ok (.iload 5, 2) ∧ decode b_Model_multiply 57 = .ok (.ifCond .eq 7, 3) ∧ decode b_Model_multiply 60 = .ok (.iconst 0, 1) ∧ decode b_Model_multiply 61 = .ok (.goto 4, 3) ∧ decode b_Model_multiply 64 = .ok (.iconst 1, 1) ∧ decode b_Model_multiply 65 = .ok (.putfield 52, 3) ∧ decode b_Model_multiply 68 = .ok (.iload 5, 2) ∧ decode b_Model_multiply 70 = .ok (.ifCond .ne 5, 3) ∧ decode b_Model_multiply 73 = .ok (.iconst 0, 1) ∧ decode b_Model_multiply 74 = .ok (.ireturn, 1) ∧ decode b_Model_multiply 75 = .ok (.iconst 0, 1) ∧ decode b_Model_multiply 76 = .ok (.istore 6, 2) ∧ decode b_Model_multiply 78 = .ok (.iload 6, 2) ∧ decode b_Model_multiply 80 = .ok (.aload_n 0, 1) ∧ decode b_Model_multiply 81 = .ok (.getfield 17, 3) ∧ decode b_Model_multiply 84 = .ok (.iload_n 1, 1) ∧ decode b_Model_multiply 85 = .ok (.iaload, 1) ∧ decode b_Model_multiply 86 = .ok (.if_icmp .ge 142, 3) ∧ decode b_Model_multiply 89 = .ok (.aload_n 0, 1) ∧ decode b_Model_multiply 90 = .ok (.iload_n 1, 1) ∧ decode b_Model_multiply 91 = .ok (.iload 6, 2) ∧ decode b_Model_multiply 93 = .ok (.invokevirtual 98, 3) ∧ decode b_Model_multiply 96 = .ok (.istore 7, 2) ∧ decode b_Model_multiply 98 = .ok (.aload_n 0, 1) ∧ decode b_Model_multiply 99 = .ok (.iload 7, 2) ∧ decode b_Model_multiply 101 = .ok (.iload_n 2, 1) ∧ decode b_Model_multiply 102 = .ok (.invokevirtual 169, 3) ∧ decode b_Model_multiply 105 = .ok (.istore 8, 2) ∧ decode b_Model_multiply 107 = .ok (.aload_n 0, 1) ∧ decode b_Model_multiply 108 = .ok (.iload 7, 2) ∧ decode b_Model_multiply 110 = .ok (.iload_n 3, 1) ∧ decode b_Model_multiply 111 = .ok (.invokevirtual 169, 3) ∧ decode b_Model_multiply 114 = .ok (.istore 9, 2) ∧ decode b_Model_multiply 116 = .ok (.iload 8, 2) ∧ decode b_Model_multiply 118 = .ok (.ifCond .lt 8, 3) ∧ decode b_Model_multiply 121 = .ok (.iload 9, 2) ∧ decode b_Model_multiply 123 = .ok (.ifCond .ge 11, 3) ∧ decode b_Model_multiply 126 = .ok (.aload_n 0, 1) ∧ decode b_Model_multiply 127 = .ok (.iconst 1, 1) ∧ decode b_Model_multiply 128 = .ok (.iload 6, 2) ∧ decode b_Model_multiply 130 = .ok (.invokevirtual 155, 3) ∧ decode b_Model_multiply 133 = .ok (.ireturn, 1) ∧ decode b_Model_multiply 134 = .ok (.iload 8, 2) ∧ decode b_Model_multiply 136 = .ok (.i2l, 1) ∧ decode b_Model_multiply 137 = .ok (.iload 9, 2) ∧ decode b_Model_multiply 139 = .ok (.i2l, 1) ∧ decode b_Model_multiply 140 = .ok (.lmul, 1) ∧ decode b_Model_multiply 141 = .ok (.ldc2_w 172, 3) ∧ decode b_Model_multiply 144 = .ok (.ladd, 1) ∧ decode b_Model_multiply 145 = .ok (.ldc2_w 161, 3) ∧ decode b_Model_multiply 148 = .ok (.ldiv, 1) ∧ decode b_Model_multiply 149 = .ok (.lstore 10, 2) ∧ decode b_Model_multiply 151 = .ok (.lload 10, 2) ∧ decode b_Model_multiply 153 = .ok (.iconst 1, 1) ∧ decode b_Model_multiply 154 = .ok (.iload 4, 2) ∧ decode b_Model_multiply 156 = .ok (.bipush 16, 2) ∧ decode b_Model_multiply 158 = .ok (.idiv, 1) ∧ decode b_Model_multiply 159 = .ok (.iadd, 1) ∧ decode b_Model_multiply 160 = .ok (.invokestatic 174, 3) ∧ decode b_Model_multiply 163 = .ok (.lcmp, 1) ∧ decode b_Model_multiply 164 = .ok (.ifCond .lt 7, 3) ∧ decode b_Model_multiply 167 = .ok (.iconst 1, 1) ∧ decode b_Model_multiply 168 = .ok (.goto 4, 3) ∧ decode b_Model_multiply 171 = .ok (.iconst 0, 1) ∧ decode b_Model_multiply 172 = .ok (.istore 12, 2) ∧ decode b_Model_multiply 174 = .ok (.iload 12, 2) ∧ decode b_Model_multiply 176 = .ok (.ifCond .eq 11, 3) ∧ decode b_Model_multiply 179 = .ok (.aload_n 0, 1) ∧ decode b_Model_multiply 180 = .ok (.iconst 3, 1) ∧ decode b_Model_multiply 181 = .ok (.iload 6, 2) ∧ decode b_Model_multiply 183 = .ok (.invokevirtual 155, 3) ∧ decode b_Model_multiply 186 = .ok (.ireturn, 1) ∧ decode b_Model_multiply 187 = .ok (.aload_n 0, 1) ∧ decode b_Model_multiply 188 = .ok (.iload 7, 2) ∧ decode b_Model_multiply 190 = .ok (.iload 4, 2) ∧ decode b_Model_multiply 192 = .ok (.lload 10, 2) ∧ decode b_Model_multiply 194 = .ok (.iconst 0, 1) ∧ decode b_Model_multiply 195 = .ok (.invokevirtual 178, 3) ∧ decode b_Model_multiply 198 = .ok (.ifCond .ne 11, 3) ∧ decode b_Model_multiply 201 = .ok (.aload_n 0, 1) ∧ decode b_Model_multiply 202 = .ok (.iconst 1, 1) ∧ decode b_Model_multiply 203 = .ok (.iload 6, 2) ∧ decode b_Model_multiply 205 = .ok (.invokevirtual 155, 3) ∧ decode b_Model_multiply 208 = .ok (.ireturn, 1) ∧ decode b_Model_multiply 209 = .ok (.aload_n 0, 1) ∧ decode b_Model_multiply 210 = .ok (.iload 7, 2) ∧ decode b_Model_multiply 212 = .ok (.iload 4, 2) ∧ decode b_Model_multiply 214 = .ok (.lload 10, 2) ∧ decode b_Model_multiply 216 = .ok (.iconst 1, 1) ∧ decode b_Model_multiply 217 = .ok (.invokevirtual 178, 3) ∧ decode b_Model_multiply 220 = .ok (.istore 5, 2) ∧ decode b_Model_multiply 222 = .ok (.iinc 6 1, 3) ∧ decode b_Model_multiply 225 = .ok (.goto (-147), 3) ∧ decode b_Model_multiply 228 = .ok (.aload_n 0, 1) ∧ decode b_Model_multiply 229 = .ok (.iconst 0, 1) ∧ decode b_Model_multiply 230 = .ok (.iconst (-1), 1) ∧ decode b_Model_multiply 231 = .ok (.invokevirtual 155, 3) ∧ decode b_Model_multiply 234 = .ok (.pop, 1) ∧ decode b_Model_multiply 235 = .ok (.aload_n 0, 1) ∧ decode b_Model_multiply 236 = .ok (.getfield 17, 3) ∧ decode b_Model_multiply 239 = .ok (.iload_n 1, 1) ∧ decode b_Model_multiply 240 = .ok (.iaload, 1) ∧ decode b_Model_multiply 241 = .ok (.ireturn, 1) := ⟨d_Model_multiply_0, d_Model_multiply_1, d_Model_multiply_4, d_Model_multiply_7, d_Model_multiply_8, d_Model_multiply_11, d_Model_multiply_14, d_Model_multiply_15, d_Model_multiply_18, d_Model_multiply_21, d_Model_multiply_23, d_Model_multiply_26, d_Model_multiply_29, d_Model_multiply_31, d_Model_multiply_32, d_Model_multiply_35, d_Model_multiply_38, d_Model_multiply_40, d_Model_multiply_41, d_Model_multiply_44, d_Model_multiply_47, d_Model_multiply_48, d_Model_multiply_51, d_Model_multiply_52, d_Model_multiply_54, d_Model_multiply_55, d_Model_multiply_57, d_Model_multiply_60, d_Model_multiply_61, d_Model_multiply_64, d_Model_multiply_65, d_Model_multiply_68, d_Model_multiply_70, d_Model_multiply_73, d_Model_multiply_74, d_Model_multiply_75, d_Model_multiply_76, d_Model_multiply_78, d_Model_multiply_80, d_Model_multiply_81, d_Model_multiply_84, d_Model_multiply_85, d_Model_multiply_86, d_Model_multiply_89, d_Model_multiply_90, d_Model_multiply_91, d_Model_multiply_93, d_Model_multiply_96, d_Model_multiply_98, d_Model_multiply_99, d_Model_multiply_101, d_Model_multiply_102, d_Model_multiply_105, d_Model_multiply_107, d_Model_multiply_108, d_Model_multiply_110, d_Model_multiply_111, d_Model_multiply_114, d_Model_multiply_116, d_Model_multiply_118, d_Model_multiply_121, d_Model_multiply_123, d_Model_multiply_126, d_Model_multiply_127, d_Model_multiply_128, d_Model_multiply_130, d_Model_multiply_133, d_Model_multiply_134, d_Model_multiply_136, d_Model_multiply_137, d_Model_multiply_139, d_Model_multiply_140, d_Model_multiply_141, d_Model_multiply_144, d_Model_multiply_145, d_Model_multiply_148, d_Model_multiply_149, d_Model_multiply_151, d_Model_multiply_153, d_Model_multiply_154, d_Model_multiply_156, d_Model_multiply_158, d_Model_multiply_159, d_Model_multiply_160, d_Model_multiply_163, d_Model_multiply_164, d_Model_multiply_167, d_Model_multiply_168, d_Model_multiply_171, d_Model_multiply_172, d_Model_multiply_174, d_Model_multiply_176, d_Model_multiply_179, d_Model_multiply_180, d_Model_multiply_181, d_Model_multiply_183, d_Model_multiply_186, d_Model_multiply_187, d_Model_multiply_188, d_Model_multiply_190, d_Model_multiply_192, d_Model_multiply_194, d_Model_multiply_195, d_Model_multiply_198, d_Model_multiply_201, d_Model_multiply_202, d_Model_multiply_203, d_Model_multiply_205, d_Model_multiply_208, d_Model_multiply_209, d_Model_multiply_210, d_Model_multiply_212, d_Model_multiply_214, d_Model_multiply_216, d_Model_multiply_217, d_Model_multiply_220, d_Model_multiply_222, d_Model_multiply_225, d_Model_multiply_228, d_Model_multiply_229, d_Model_multiply_230, d_Model_multiply_231, d_Model_multiply_234, d_Model_multiply_235, d_Model_multiply_236, d_Model_multiply_239, d_Model_multiply_240, d_Model_multiply_241⟩
theorem v_Model_multiply : Cond.instanceMethod y_Model_multiply ∈ nm_Ts ∧ Cond.selects y_Model_multiply.cls y_Model_multiply y_Model_multiply ∈ nm_Ts ∧ Cond.initialized y_Model_multiply.cls ∈ nm_Ts ∧ Cond.code y_Model_multiply b_Model_multiply 13 (some .int) ∈ nm_Ts ∧ mz_cl1 y_Model_multiply 4 := ⟨nm_t5 42 rfl rfl, nm_t5 43 rfl rfl, nm_t1 12 rfl rfl, nm_t5 44 rfl rfl, by decide +kernel⟩
def y_Model_isFactor : MethodName := ⟨"CardOfficeModel", "isFactor", "(I)Z"⟩
abbrev b_Model_isFactor : ByteArray := prog_14_method_39_code
def r_Model_isFactor (c s : Nat) : Room := { frames := 0, cells := c, slots := s, locals := 0 }
theorem d_Model_isFactor_0 : decode b_Model_isFactor 0 = .ok (.iload_n 0, 1) := by decide +kernel
theorem d_Model_isFactor_1 : decode b_Model_isFactor 1 = .ok (.ifCond .lt 27, 3) := by decide +kernel
theorem d_Model_isFactor_4 : decode b_Model_isFactor 4 = .ok (.iload_n 0, 1) := by decide +kernel
theorem d_Model_isFactor_5 : decode b_Model_isFactor 5 = .ok (.bipush 96, 2) := by decide +kernel
theorem d_Model_isFactor_7 : decode b_Model_isFactor 7 = .ok (.if_icmp .ge 21, 3) := by decide +kernel
theorem d_Model_isFactor_10 : decode b_Model_isFactor 10 = .ok (.iload_n 0, 1) := by decide +kernel
theorem d_Model_isFactor_11 : decode b_Model_isFactor 11 = .ok (.bipush 16, 2) := by decide +kernel
theorem d_Model_isFactor_13 : decode b_Model_isFactor 13 = .ok (.irem, 1) := by decide +kernel
theorem d_Model_isFactor_14 : decode b_Model_isFactor 14 = .ok (.iload_n 0, 1) := by decide +kernel
theorem d_Model_isFactor_15 : decode b_Model_isFactor 15 = .ok (.bipush 16, 2) := by decide +kernel
theorem d_Model_isFactor_17 : decode b_Model_isFactor 17 = .ok (.idiv, 1) := by decide +kernel
theorem d_Model_isFactor_18 : decode b_Model_isFactor 18 = .ok (.iadd, 1) := by decide +kernel
theorem d_Model_isFactor_19 : decode b_Model_isFactor 19 = .ok (.bipush 16, 2) := by decide +kernel
theorem d_Model_isFactor_21 : decode b_Model_isFactor 21 = .ok (.if_icmp .ge 7, 3) := by decide +kernel
theorem d_Model_isFactor_24 : decode b_Model_isFactor 24 = .ok (.iconst 1, 1) := by decide +kernel
theorem d_Model_isFactor_25 : decode b_Model_isFactor 25 = .ok (.goto 4, 3) := by decide +kernel
theorem d_Model_isFactor_28 : decode b_Model_isFactor 28 = .ok (.iconst 0, 1) := by decide +kernel
theorem d_Model_isFactor_29 : decode b_Model_isFactor 29 = .ok (.ireturn, 1) := by decide +kernel
theorem d_Model_isFactor : decode b_Model_isFactor 0 = .ok (.iload_n 0, 1) ∧ decode b_Model_isFactor 1 = .ok (.ifCond .lt 27, 3) ∧ decode b_Model_isFactor 4 = .ok (.iload_n 0, 1) ∧ decode b_Model_isFactor 5 = .ok (.bipush 96, 2) ∧ decode b_Model_isFactor 7 = .ok (.if_icmp .ge 21, 3) ∧ decode b_Model_isFactor 10 = .ok (.iload_n 0, 1) ∧ decode b_Model_isFactor 11 = .ok (.bipush 16, 2) ∧ decode b_Model_isFactor 13 = .ok (.irem, 1) ∧ decode b_Model_isFactor 14 = .ok (.iload_n 0, 1) ∧ decode b_Model_isFactor 15 = .ok (.bipush 16, 2) ∧ decode b_Model_isFactor 17 = .ok (.idiv, 1) ∧ decode b_Model_isFactor 18 = .ok (.iadd, 1) ∧ decode b_Model_isFactor 19 = .ok (.bipush 16, 2) ∧ decode b_Model_isFactor 21 = .ok (.if_icmp .ge 7, 3) ∧ decode b_Model_isFactor 24 = .ok (.iconst 1, 1) ∧ decode b_Model_isFactor 25 = .ok (.goto 4, 3) ∧ decode b_Model_isFactor 28 = .ok (.iconst 0, 1) ∧ decode b_Model_isFactor 29 = .ok (.ireturn, 1) := ⟨d_Model_isFactor_0, d_Model_isFactor_1, d_Model_isFactor_4, d_Model_isFactor_5, d_Model_isFactor_7, d_Model_isFactor_10, d_Model_isFactor_11, d_Model_isFactor_13, d_Model_isFactor_14, d_Model_isFactor_15, d_Model_isFactor_17, d_Model_isFactor_18, d_Model_isFactor_19, d_Model_isFactor_21, d_Model_isFactor_24, d_Model_isFactor_25, d_Model_isFactor_28, d_Model_isFactor_29⟩
theorem s_Model_isFactor : Cond.static y_Model_isFactor ∈ nm_Ts ∧ Cond.initialized y_Model_isFactor.cls ∈ nm_Ts ∧ Cond.code y_Model_isFactor b_Model_isFactor 1 (some .boolean) ∈ nm_Ts ∧ mz_cl1 y_Model_isFactor 1 := ⟨nm_t5 46 rfl rfl, nm_t1 12 rfl rfl, nm_t5 47 rfl rfl, by decide +kernel⟩
def y_Model_meet : MethodName := ⟨"CardOfficeModel", "meet", "(II)Z"⟩
abbrev b_Model_meet : ByteArray := prog_14_method_40_code
def r_Model_meet (c s : Nat) : Room := { frames := 0, cells := c, slots := s, locals := 0 }
theorem d_Model_meet_0 : decode b_Model_meet 0 = .ok (.iload_n 0, 1) := by decide +kernel
theorem d_Model_meet_1 : decode b_Model_meet 1 = .ok (.bipush 16, 2) := by decide +kernel
theorem d_Model_meet_3 : decode b_Model_meet 3 = .ok (.irem, 1) := by decide +kernel
theorem d_Model_meet_4 : decode b_Model_meet 4 = .ok (.iload_n 1, 1) := by decide +kernel
theorem d_Model_meet_5 : decode b_Model_meet 5 = .ok (.bipush 16, 2) := by decide +kernel
theorem d_Model_meet_7 : decode b_Model_meet 7 = .ok (.irem, 1) := by decide +kernel
theorem d_Model_meet_8 : decode b_Model_meet 8 = .ok (.iload_n 1, 1) := by decide +kernel
theorem d_Model_meet_9 : decode b_Model_meet 9 = .ok (.bipush 16, 2) := by decide +kernel
theorem d_Model_meet_11 : decode b_Model_meet 11 = .ok (.idiv, 1) := by decide +kernel
theorem d_Model_meet_12 : decode b_Model_meet 12 = .ok (.iadd, 1) := by decide +kernel
theorem d_Model_meet_13 : decode b_Model_meet 13 = .ok (.if_icmp .gt 23, 3) := by decide +kernel
theorem d_Model_meet_16 : decode b_Model_meet 16 = .ok (.iload_n 1, 1) := by decide +kernel
theorem d_Model_meet_17 : decode b_Model_meet 17 = .ok (.bipush 16, 2) := by decide +kernel
theorem d_Model_meet_19 : decode b_Model_meet 19 = .ok (.irem, 1) := by decide +kernel
theorem d_Model_meet_20 : decode b_Model_meet 20 = .ok (.iload_n 0, 1) := by decide +kernel
theorem d_Model_meet_21 : decode b_Model_meet 21 = .ok (.bipush 16, 2) := by decide +kernel
theorem d_Model_meet_23 : decode b_Model_meet 23 = .ok (.irem, 1) := by decide +kernel
theorem d_Model_meet_24 : decode b_Model_meet 24 = .ok (.iload_n 0, 1) := by decide +kernel
theorem d_Model_meet_25 : decode b_Model_meet 25 = .ok (.bipush 16, 2) := by decide +kernel
theorem d_Model_meet_27 : decode b_Model_meet 27 = .ok (.idiv, 1) := by decide +kernel
theorem d_Model_meet_28 : decode b_Model_meet 28 = .ok (.iadd, 1) := by decide +kernel
theorem d_Model_meet_29 : decode b_Model_meet 29 = .ok (.if_icmp .gt 7, 3) := by decide +kernel
theorem d_Model_meet_32 : decode b_Model_meet 32 = .ok (.iconst 1, 1) := by decide +kernel
theorem d_Model_meet_33 : decode b_Model_meet 33 = .ok (.goto 4, 3) := by decide +kernel
theorem d_Model_meet_36 : decode b_Model_meet 36 = .ok (.iconst 0, 1) := by decide +kernel
theorem d_Model_meet_37 : decode b_Model_meet 37 = .ok (.ireturn, 1) := by decide +kernel
theorem d_Model_meet : decode b_Model_meet 0 = .ok (.iload_n 0, 1) ∧ decode b_Model_meet 1 = .ok (.bipush 16, 2) ∧ decode b_Model_meet 3 = .ok (.irem, 1) ∧ decode b_Model_meet 4 = .ok (.iload_n 1, 1) ∧ decode b_Model_meet 5 = .ok (.bipush 16, 2) ∧ decode b_Model_meet 7 = .ok (.irem, 1) ∧ decode b_Model_meet 8 = .ok (.iload_n 1, 1) ∧ decode b_Model_meet 9 = .ok (.bipush 16, 2) ∧ decode b_Model_meet 11 = .ok (.idiv, 1) ∧ decode b_Model_meet 12 = .ok (.iadd, 1) ∧ decode b_Model_meet 13 = .ok (.if_icmp .gt 23, 3) ∧ decode b_Model_meet 16 = .ok (.iload_n 1, 1) ∧ decode b_Model_meet 17 = .ok (.bipush 16, 2) ∧ decode b_Model_meet 19 = .ok (.irem, 1) ∧ decode b_Model_meet 20 = .ok (.iload_n 0, 1) ∧ decode b_Model_meet 21 = .ok (.bipush 16, 2) ∧ decode b_Model_meet 23 = .ok (.irem, 1) ∧ decode b_Model_meet 24 = .ok (.iload_n 0, 1) ∧ decode b_Model_meet 25 = .ok (.bipush 16, 2) ∧ decode b_Model_meet 27 = .ok (.idiv, 1) ∧ decode b_Model_meet 28 = .ok (.iadd, 1) ∧ decode b_Model_meet 29 = .ok (.if_icmp .gt 7, 3) ∧ decode b_Model_meet 32 = .ok (.iconst 1, 1) ∧ decode b_Model_meet 33 = .ok (.goto 4, 3) ∧ decode b_Model_meet 36 = .ok (.iconst 0, 1) ∧ decode b_Model_meet 37 = .ok (.ireturn, 1) := ⟨d_Model_meet_0, d_Model_meet_1, d_Model_meet_3, d_Model_meet_4, d_Model_meet_5, d_Model_meet_7, d_Model_meet_8, d_Model_meet_9, d_Model_meet_11, d_Model_meet_12, d_Model_meet_13, d_Model_meet_16, d_Model_meet_17, d_Model_meet_19, d_Model_meet_20, d_Model_meet_21, d_Model_meet_23, d_Model_meet_24, d_Model_meet_25, d_Model_meet_27, d_Model_meet_28, d_Model_meet_29, d_Model_meet_32, d_Model_meet_33, d_Model_meet_36, d_Model_meet_37⟩
theorem s_Model_meet : Cond.static y_Model_meet ∈ nm_Ts ∧ Cond.initialized y_Model_meet.cls ∈ nm_Ts ∧ Cond.code y_Model_meet b_Model_meet 2 (some .boolean) ∈ nm_Ts ∧ mz_cl1 y_Model_meet 2 := ⟨nm_t5 49 rfl rfl, nm_t1 12 rfl rfl, nm_t5 50 rfl rfl, by decide +kernel⟩
def y_Model_numberOf : MethodName := ⟨"CardOfficeModel", "numberOf", "(II)I"⟩
abbrev b_Model_numberOf : ByteArray := prog_14_method_41_code
def r_Model_numberOf (c s : Nat) : Room := { frames := 1, cells := c, slots := s, locals := 22 }
theorem d_Model_numberOf_0 : decode b_Model_numberOf 0 = .ok (.iconst 0, 1) := by decide +kernel
theorem d_Model_numberOf_1 : decode b_Model_numberOf 1 = .ok (.istore_n 3, 1) := by decide +kernel
theorem d_Model_numberOf_2 : decode b_Model_numberOf 2 = .ok (.iload_n 2, 1) := by decide +kernel
theorem d_Model_numberOf_3 : decode b_Model_numberOf 3 = .ok (.bipush 16, 2) := by decide +kernel
theorem d_Model_numberOf_5 : decode b_Model_numberOf 5 = .ok (.irem, 1) := by decide +kernel
theorem d_Model_numberOf_6 : decode b_Model_numberOf 6 = .ok (.istore 4, 2) := by decide +kernel
theorem d_Model_numberOf_8 : decode b_Model_numberOf 8 = .ok (.iload 4, 2) := by decide +kernel
theorem d_Model_numberOf_10 : decode b_Model_numberOf 10 = .ok (.iload_n 2, 1) := by decide +kernel
theorem d_Model_numberOf_11 : decode b_Model_numberOf 11 = .ok (.bipush 16, 2) := by decide +kernel
theorem d_Model_numberOf_13 : decode b_Model_numberOf 13 = .ok (.irem, 1) := by decide +kernel
theorem d_Model_numberOf_14 : decode b_Model_numberOf 14 = .ok (.iload_n 2, 1) := by decide +kernel
theorem d_Model_numberOf_15 : decode b_Model_numberOf 15 = .ok (.bipush 16, 2) := by decide +kernel
theorem d_Model_numberOf_17 : decode b_Model_numberOf 17 = .ok (.idiv, 1) := by decide +kernel
theorem d_Model_numberOf_18 : decode b_Model_numberOf 18 = .ok (.iadd, 1) := by decide +kernel
theorem d_Model_numberOf_19 : decode b_Model_numberOf 19 = .ok (.if_icmp .gt 68, 3) := by decide +kernel
theorem d_Model_numberOf_22 : decode b_Model_numberOf 22 = .ok (.aload_n 0, 1) := by decide +kernel
theorem d_Model_numberOf_23 : decode b_Model_numberOf 23 = .ok (.iload_n 1, 1) := by decide +kernel
theorem d_Model_numberOf_24 : decode b_Model_numberOf 24 = .ok (.iload 4, 2) := by decide +kernel
theorem d_Model_numberOf_26 : decode b_Model_numberOf 26 = .ok (.invokevirtual 91, 3) := by decide +kernel
theorem d_Model_numberOf_29 : decode b_Model_numberOf 29 = .ok (.istore 5, 2) := by decide +kernel
theorem d_Model_numberOf_31 : decode b_Model_numberOf 31 = .ok (.iload 5, 2) := by decide +kernel
theorem d_Model_numberOf_33 : decode b_Model_numberOf 33 = .ok (.bipush 32, 2) := by decide +kernel
theorem d_Model_numberOf_35 : decode b_Model_numberOf 35 = .ok (.if_icmp .ne 7, 3) := by decide +kernel
theorem d_Model_numberOf_38 : decode b_Model_numberOf 38 = .ok (.iconst 0, 1) := by decide +kernel
theorem d_Model_numberOf_39 : decode b_Model_numberOf 39 = .ok (.goto 19, 3) := by decide +kernel
theorem d_Model_numberOf_42 : decode b_Model_numberOf 42 = .ok (.iload 5, 2) := by decide +kernel
theorem d_Model_numberOf_44 : decode b_Model_numberOf 44 = .ok (.bipush 65, 2) := by decide +kernel
theorem d_Model_numberOf_46 : decode b_Model_numberOf 46 = .ok (.if_icmp .ge 11, 3) := by decide +kernel
theorem d_Model_numberOf_49 : decode b_Model_numberOf 49 = .ok (.iload 5, 2) := by decide +kernel
theorem d_Model_numberOf_51 : decode b_Model_numberOf 51 = .ok (.bipush 48, 2) := by decide +kernel
theorem d_Model_numberOf_53 : decode b_Model_numberOf 53 = .ok (.isub, 1) := by decide +kernel
theorem d_Model_numberOf_54 : decode b_Model_numberOf 54 = .ok (.goto 4, 3) := by decide +kernel
theorem d_Model_numberOf_57 : decode b_Model_numberOf 57 = .ok (.iconst (-1), 1) := by decide +kernel
theorem d_Model_numberOf_58 : decode b_Model_numberOf 58 = .ok (.istore 6, 2) := by decide +kernel
theorem d_Model_numberOf_60 : decode b_Model_numberOf 60 = .ok (.iload_n 3, 1) := by decide +kernel
theorem d_Model_numberOf_61 : decode b_Model_numberOf 61 = .ok (.ifCond .lt 8, 3) := by decide +kernel
theorem d_Model_numberOf_64 : decode b_Model_numberOf 64 = .ok (.iload 6, 2) := by decide +kernel
theorem d_Model_numberOf_66 : decode b_Model_numberOf 66 = .ok (.ifCond .ge 7, 3) := by decide +kernel
theorem d_Model_numberOf_69 : decode b_Model_numberOf 69 = .ok (.iconst (-1), 1) := by decide +kernel
theorem d_Model_numberOf_70 : decode b_Model_numberOf 70 = .ok (.goto 10, 3) := by decide +kernel
theorem d_Model_numberOf_73 : decode b_Model_numberOf 73 = .ok (.bipush 10, 2) := by decide +kernel
theorem d_Model_numberOf_75 : decode b_Model_numberOf 75 = .ok (.iload_n 3, 1) := by decide +kernel
theorem d_Model_numberOf_76 : decode b_Model_numberOf 76 = .ok (.imul, 1) := by decide +kernel
theorem d_Model_numberOf_77 : decode b_Model_numberOf 77 = .ok (.iload 6, 2) := by decide +kernel
theorem d_Model_numberOf_79 : decode b_Model_numberOf 79 = .ok (.iadd, 1) := by decide +kernel
theorem d_Model_numberOf_80 : decode b_Model_numberOf 80 = .ok (.istore_n 3, 1) := by decide +kernel
theorem d_Model_numberOf_81 : decode b_Model_numberOf 81 = .ok (.iinc 4 1, 3) := by decide +kernel
theorem d_Model_numberOf_84 : decode b_Model_numberOf 84 = .ok (.goto (-76), 3) := by decide +kernel
theorem d_Model_numberOf_87 : decode b_Model_numberOf 87 = .ok (.iload_n 3, 1) := by decide +kernel
theorem d_Model_numberOf_88 : decode b_Model_numberOf 88 = .ok (.ireturn, 1) := by decide +kernel
theorem d_Model_numberOf : decode b_Model_numberOf 0 = .ok (.iconst 0, 1) ∧ decode b_Model_numberOf 1 = .ok (.istore_n 3, 1) ∧ decode b_Model_numberOf 2 = .ok (.iload_n 2, 1) ∧ decode b_Model_numberOf 3 = .ok (.bipush 16, 2) ∧ decode b_Model_numberOf 5 = .ok (.irem, 1) ∧ decode b_Model_numberOf 6 = .ok (.istore 4, 2) ∧ decode b_Model_numberOf 8 = .ok (.iload 4, 2) ∧ decode b_Model_numberOf 10 = .ok (.iload_n 2, 1) ∧ decode b_Model_numberOf 11 = .ok (.bipush 16, 2) ∧ decode b_Model_numberOf 13 = .ok (.irem, 1) ∧ decode b_Model_numberOf 14 = .ok (.iload_n 2, 1) ∧ decode b_Model_numberOf 15 = .ok (.bipush 16, 2) ∧ decode b_Model_numberOf 17 = .ok (.idiv, 1) ∧ decode b_Model_numberOf 18 = .ok (.iadd, 1) ∧ decode b_Model_numberOf 19 = .ok (.if_icmp .gt 68, 3) ∧ decode b_Model_numberOf 22 = .ok (.aload_n 0, 1) ∧ decode b_Model_numberOf 23 = .ok (.iload_n 1, 1) ∧ decode b_Model_numberOf 24 = .ok (.iload 4, 2) ∧ decode b_Model_numberOf 26 = .ok (.invokevirtual 91, 3) ∧ decode b_Model_numberOf 29 = .ok (.istore 5, 2) ∧ decode b_Model_numberOf 31 = .ok (.iload 5, 2) ∧ decode b_Model_numberOf 33 = .ok (.bipush 32, 2) ∧ decode b_Model_numberOf 35 = .ok (.if_icmp .ne 7, 3) ∧ decode b_Model_numberOf 38 = .ok (.iconst 0, 1) ∧ decode b_Model_numberOf 39 = .ok (.goto 19, 3) ∧ decode b_Model_numberOf 42 = .ok (.iload 5, 2) ∧ decode b_Model_numberOf 44 = .ok (.bipush 65, 2) ∧ decode b_Model_numberOf 46 = .ok (.if_icmp .ge 11, 3) ∧ decode b_Model_numberOf 49 = .ok (.iload 5, 2) ∧ decode b_Model_numberOf 51 = .ok (.bipush 48, 2) ∧ decode b_Model_numberOf 53 = .ok (.isub, 1) ∧ decode b_Model_numberOf 54 = .ok (.goto 4, 3) ∧ decode b_Model_numberOf 57 = .ok (.iconst (-1), 1) ∧ decode b_Model_numberOf 58 = .ok (.istore 6, 2) ∧ decode b_Model_numberOf 60 = .ok (.iload_n 3, 1) ∧ decode b_Model_numberOf 61 = .ok (.ifCond .lt 8, 3) ∧ decode b_Model_numberOf 64 = .ok (.iload 6, 2) ∧ decode b_Model_numberOf 66 = .ok (.ifCond .ge 7, 3) ∧ decode b_Model_numberOf 69 = .ok (.iconst (-1), 1) ∧ decode b_Model_numberOf 70 = .ok (.goto 10, 3) ∧ decode b_Model_numberOf 73 = .ok (.bipush 10, 2) ∧ decode b_Model_numberOf 75 = .ok (.iload_n 3, 1) ∧ decode b_Model_numberOf 76 = .ok (.imul, 1) ∧ decode b_Model_numberOf 77 = .ok (.iload 6, 2) ∧ decode b_Model_numberOf 79 = .ok (.iadd, 1) ∧ decode b_Model_numberOf 80 = .ok (.istore_n 3, 1) ∧ decode b_Model_numberOf 81 = .ok (.iinc 4 1, 3) ∧ decode b_Model_numberOf 84 = .ok (.goto (-76), 3) ∧ decode b_Model_numberOf 87 = .ok (.iload_n 3, 1) ∧ decode b_Model_numberOf 88 = .ok (.ireturn, 1) := ⟨d_Model_numberOf_0, d_Model_numberOf_1, d_Model_numberOf_2, d_Model_numberOf_3, d_Model_numberOf_5, d_Model_numberOf_6, d_Model_numberOf_8, d_Model_numberOf_10, d_Model_numberOf_11, d_Model_numberOf_13, d_Model_numberOf_14, d_Model_numberOf_15, d_Model_numberOf_17, d_Model_numberOf_18, d_Model_numberOf_19, d_Model_numberOf_22, d_Model_numberOf_23, d_Model_numberOf_24, d_Model_numberOf_26, d_Model_numberOf_29, d_Model_numberOf_31, d_Model_numberOf_33, d_Model_numberOf_35, d_Model_numberOf_38, d_Model_numberOf_39, d_Model_numberOf_42, d_Model_numberOf_44, d_Model_numberOf_46, d_Model_numberOf_49, d_Model_numberOf_51, d_Model_numberOf_53, d_Model_numberOf_54, d_Model_numberOf_57, d_Model_numberOf_58, d_Model_numberOf_60, d_Model_numberOf_61, d_Model_numberOf_64, d_Model_numberOf_66, d_Model_numberOf_69, d_Model_numberOf_70, d_Model_numberOf_73, d_Model_numberOf_75, d_Model_numberOf_76, d_Model_numberOf_77, d_Model_numberOf_79, d_Model_numberOf_80, d_Model_numberOf_81, d_Model_numberOf_84, d_Model_numberOf_87, d_Model_numberOf_88⟩
theorem v_Model_numberOf : Cond.instanceMethod y_Model_numberOf ∈ nm_Ts ∧ Cond.selects y_Model_numberOf.cls y_Model_numberOf y_Model_numberOf ∈ nm_Ts ∧ Cond.initialized y_Model_numberOf.cls ∈ nm_Ts ∧ Cond.code y_Model_numberOf b_Model_numberOf 7 (some .int) ∈ nm_Ts ∧ mz_cl1 y_Model_numberOf 2 := ⟨nm_t5 53 rfl rfl, nm_s 35 rfl rfl, nm_t1 12 rfl rfl, nm_t5 54 rfl rfl, by decide +kernel⟩
def y_Model_tenTo : MethodName := ⟨"CardOfficeModel", "tenTo", "(I)J"⟩
abbrev b_Model_tenTo : ByteArray := prog_14_method_43_code
def r_Model_tenTo (c s : Nat) : Room := { frames := 0, cells := c, slots := s, locals := 0 }
theorem d_Model_tenTo_0 : decode b_Model_tenTo 0 = .ok (.lconst 1, 1) := by decide +kernel
theorem d_Model_tenTo_1 : decode b_Model_tenTo 1 = .ok (.lstore_n 1, 1) := by decide +kernel
theorem d_Model_tenTo_2 : decode b_Model_tenTo 2 = .ok (.iconst 0, 1) := by decide +kernel
theorem d_Model_tenTo_3 : decode b_Model_tenTo 3 = .ok (.istore_n 3, 1) := by decide +kernel
theorem d_Model_tenTo_4 : decode b_Model_tenTo 4 = .ok (.iload_n 3, 1) := by decide +kernel
theorem d_Model_tenTo_5 : decode b_Model_tenTo 5 = .ok (.iload_n 0, 1) := by decide +kernel
theorem d_Model_tenTo_6 : decode b_Model_tenTo 6 = .ok (.if_icmp .ge 15, 3) := by decide +kernel
theorem d_Model_tenTo_9 : decode b_Model_tenTo 9 = .ok (.ldc2_w 161, 3) := by decide +kernel
theorem d_Model_tenTo_12 : decode b_Model_tenTo 12 = .ok (.lload_n 1, 1) := by decide +kernel
theorem d_Model_tenTo_13 : decode b_Model_tenTo 13 = .ok (.lmul, 1) := by decide +kernel
theorem d_Model_tenTo_14 : decode b_Model_tenTo 14 = .ok (.lstore_n 1, 1) := by decide +kernel
theorem d_Model_tenTo_15 : decode b_Model_tenTo 15 = .ok (.iinc 3 1, 3) := by decide +kernel
theorem d_Model_tenTo_18 : decode b_Model_tenTo 18 = .ok (.goto (-14), 3) := by decide +kernel
theorem d_Model_tenTo_21 : decode b_Model_tenTo 21 = .ok (.lload_n 1, 1) := by decide +kernel
theorem d_Model_tenTo_22 : decode b_Model_tenTo 22 = .ok (.lreturn, 1) := by decide +kernel
theorem d_Model_tenTo : decode b_Model_tenTo 0 = .ok (.lconst 1, 1) ∧ decode b_Model_tenTo 1 = .ok (.lstore_n 1, 1) ∧ decode b_Model_tenTo 2 = .ok (.iconst 0, 1) ∧ decode b_Model_tenTo 3 = .ok (.istore_n 3, 1) ∧ decode b_Model_tenTo 4 = .ok (.iload_n 3, 1) ∧ decode b_Model_tenTo 5 = .ok (.iload_n 0, 1) ∧ decode b_Model_tenTo 6 = .ok (.if_icmp .ge 15, 3) ∧ decode b_Model_tenTo 9 = .ok (.ldc2_w 161, 3) ∧ decode b_Model_tenTo 12 = .ok (.lload_n 1, 1) ∧ decode b_Model_tenTo 13 = .ok (.lmul, 1) ∧ decode b_Model_tenTo 14 = .ok (.lstore_n 1, 1) ∧ decode b_Model_tenTo 15 = .ok (.iinc 3 1, 3) ∧ decode b_Model_tenTo 18 = .ok (.goto (-14), 3) ∧ decode b_Model_tenTo 21 = .ok (.lload_n 1, 1) ∧ decode b_Model_tenTo 22 = .ok (.lreturn, 1) := ⟨d_Model_tenTo_0, d_Model_tenTo_1, d_Model_tenTo_2, d_Model_tenTo_3, d_Model_tenTo_4, d_Model_tenTo_5, d_Model_tenTo_6, d_Model_tenTo_9, d_Model_tenTo_12, d_Model_tenTo_13, d_Model_tenTo_14, d_Model_tenTo_15, d_Model_tenTo_18, d_Model_tenTo_21, d_Model_tenTo_22⟩
theorem s_Model_tenTo : Cond.static y_Model_tenTo ∈ nm_Ts ∧ Cond.initialized y_Model_tenTo.cls ∈ nm_Ts ∧ Cond.code y_Model_tenTo b_Model_tenTo 4 (some .long) ∈ nm_Ts ∧ mz_cl1 y_Model_tenTo 1 := ⟨nm_t5 58 rfl rfl, nm_t1 12 rfl rfl, nm_t5 59 rfl rfl, by decide +kernel⟩
def y_Model_punches : MethodName := ⟨"CardOfficeModel", "punches", "(IIJZ)Z"⟩
abbrev b_Model_punches : ByteArray := prog_14_method_42_code
def r_Model_punches (c s : Nat) : Room := { frames := 1, cells := c, slots := s, locals := 22 }
theorem d_Model_punches_0 : decode b_Model_punches 0 = .ok (.lload_n 3, 1) := by decide +kernel
theorem d_Model_punches_1 : decode b_Model_punches 1 = .ok (.lstore 6, 2) := by decide +kernel
theorem d_Model_punches_3 : decode b_Model_punches 3 = .ok (.iconst 1, 1) := by decide +kernel
theorem d_Model_punches_4 : decode b_Model_punches 4 = .ok (.istore 8, 2) := by decide +kernel
theorem d_Model_punches_6 : decode b_Model_punches 6 = .ok (.iload_n 2, 1) := by decide +kernel
theorem d_Model_punches_7 : decode b_Model_punches 7 = .ok (.bipush 16, 2) := by decide +kernel
theorem d_Model_punches_9 : decode b_Model_punches 9 = .ok (.irem, 1) := by decide +kernel
theorem d_Model_punches_10 : decode b_Model_punches 10 = .ok (.iload_n 2, 1) := by decide +kernel
theorem d_Model_punches_11 : decode b_Model_punches 11 = .ok (.bipush 16, 2) := by decide +kernel
theorem d_Model_punches_13 : decode b_Model_punches 13 = .ok (.idiv, 1) := by decide +kernel
theorem d_Model_punches_14 : decode b_Model_punches 14 = .ok (.iadd, 1) := by decide +kernel
theorem d_Model_punches_15 : decode b_Model_punches 15 = .ok (.istore 9, 2) := by decide +kernel
theorem d_Model_punches_17 : decode b_Model_punches 17 = .ok (.iload 9, 2) := by decide +kernel
theorem d_Model_punches_19 : decode b_Model_punches 19 = .ok (.iload_n 2, 1) := by decide +kernel
theorem d_Model_punches_20 : decode b_Model_punches 20 = .ok (.bipush 16, 2) := by decide +kernel
theorem d_Model_punches_22 : decode b_Model_punches 22 = .ok (.irem, 1) := by decide +kernel
theorem d_Model_punches_23 : decode b_Model_punches 23 = .ok (.if_icmp .lt 85, 3) := by decide +kernel
theorem d_Model_punches_26 : decode b_Model_punches 26 = .ok (.bipush 48, 2) := by decide +kernel
theorem d_Model_punches_28 : decode b_Model_punches 28 = .ok (.lload 6, 2) := by decide +kernel
theorem d_Model_punches_30 : decode b_Model_punches 30 = .ok (.ldc2_w 161, 3) := by decide +kernel
theorem d_Model_punches_33 : decode b_Model_punches 33 = .ok (.lrem, 1) := by decide +kernel
theorem d_Model_punches_34 : decode b_Model_punches 34 = .ok (.l2i, 1) := by decide +kernel
theorem d_Model_punches_35 : decode b_Model_punches 35 = .ok (.iadd, 1) := by decide +kernel
theorem d_Model_punches_36 : decode b_Model_punches 36 = .ok (.istore 10, 2) := by decide +kernel
theorem d_Model_punches_38 : decode b_Model_punches 38 = .ok (.lload 6, 2) := by decide +kernel
theorem d_Model_punches_40 : decode b_Model_punches 40 = .ok (.ldc2_w 161, 3) := by decide +kernel
theorem d_Model_punches_43 : decode b_Model_punches 43 = .ok (.ldiv, 1) := by decide +kernel
theorem d_Model_punches_44 : decode b_Model_punches 44 = .ok (.lstore 6, 2) := by decide +kernel
theorem d_Model_punches_46 : decode b_Model_punches 46 = .ok (.iload 8, 2) := by decide +kernel
theorem d_Model_punches_48 : decode b_Model_punches 48 = .ok (.ifCond .eq 31, 3) := by decide +kernel
theorem d_Model_punches_51 : decode b_Model_punches 51 = .ok (.aload_n 0, 1) := by decide +kernel
theorem d_Model_punches_52 : decode b_Model_punches 52 = .ok (.iload_n 1, 1) := by decide +kernel
theorem d_Model_punches_53 : decode b_Model_punches 53 = .ok (.iload 9, 2) := by decide +kernel
theorem d_Model_punches_55 : decode b_Model_punches 55 = .ok (.invokevirtual 91, 3) := by decide +kernel
theorem d_Model_punches_58 : decode b_Model_punches 58 = .ok (.bipush 32, 2) := by decide +kernel
theorem d_Model_punches_60 : decode b_Model_punches 60 = .ok (.if_icmp .eq 15, 3) := by decide +kernel
theorem d_Model_punches_63 : decode b_Model_punches 63 = .ok (.aload_n 0, 1) := by decide +kernel
theorem d_Model_punches_64 : decode b_Model_punches 64 = .ok (.iload_n 1, 1) := by decide +kernel
theorem d_Model_punches_65 : decode b_Model_punches 65 = .ok (.iload 9, 2) := by decide +kernel
theorem d_Model_punches_67 : decode b_Model_punches 67 = .ok (.invokevirtual 91, 3) := by decide +kernel
theorem d_Model_punches_70 : decode b_Model_punches 70 = .ok (.iload 10, 2) := by decide +kernel
theorem d_Model_punches_72 : decode b_Model_punches 72 = .ok (.if_icmp .ne 7, 3) := by decide +kernel
theorem d_Model_punches_75 : decode b_Model_punches 75 = .ok (.iconst 1, 1) := by decide +kernel
theorem d_Model_punches_76 : decode b_Model_punches 76 = .ok (.goto 4, 3) := by decide +kernel
theorem d_Model_punches_79 : decode b_Model_punches 79 = .ok (.iconst 0, 1) := by decide +kernel
theorem d_Model_punches_80 : decode b_Model_punches 80 = .ok (.istore 8, 2) := by decide +kernel
theorem d_Model_punches_82 : decode b_Model_punches 82 = .ok (.iload 5, 2) := by decide +kernel
theorem d_Model_punches_84 : decode b_Model_punches 84 = .ok (.ifCond .eq 18, 3) := by decide +kernel
theorem d_Model_punches_87 : decode b_Model_punches 87 = .ok (.aload_n 0, 1) := by decide +kernel
theorem d_Model_punches_88 : decode b_Model_punches 88 = .ok (.getfield 7, 3) := by decide +kernel
theorem d_Model_punches_91 : decode b_Model_punches 91 = .ok (.bipush 16, 2) := by decide +kernel
theorem d_Model_punches_93 : decode b_Model_punches 93 = .ok (.iload_n 1, 1) := by decide +kernel
theorem d_Model_punches_94 : decode b_Model_punches 94 = .ok (.imul, 1) := by decide +kernel
theorem d_Model_punches_95 : decode b_Model_punches 95 = .ok (.iload 9, 2) := by decide +kernel
theorem d_Model_punches_97 : decode b_Model_punches 97 = .ok (.iadd, 1) := by decide +kernel
theorem d_Model_punches_98 : decode b_Model_punches 98 = .ok (.iload 10, 2) := by decide +kernel
theorem d_Model_punches_100 : decode b_Model_punches 100 = .ok (.i2b, 1) := by decide +kernel
theorem d_Model_punches_101 : decode b_Model_punches 101 = .ok (.bastore, 1) := by decide +kernel
theorem d_Model_punches_102 : decode b_Model_punches 102 = .ok (.iinc 9 (-1), 3) := by decide +kernel
theorem d_Model_punches_105 : decode b_Model_punches 105 = .ok (.goto (-88), 3) := by decide +kernel
theorem d_Model_punches_108 : decode b_Model_punches 108 = .ok (.iload 8, 2) := by decide +kernel
theorem d_Model_punches_110 : decode b_Model_punches 110 = .ok (.ireturn, 1) := by decide +kernel
theorem d_Model_punches : decode b_Model_punches 0 = .ok (.lload_n 3, 1) ∧ decode b_Model_punches 1 = .ok (.lstore 6, 2) ∧ decode b_Model_punches 3 = .ok (.iconst 1, 1) ∧ decode b_Model_punches 4 = .ok (.istore 8, 2) ∧ decode b_Model_punches 6 = .ok (.iload_n 2, 1) ∧ decode b_Model_punches 7 = .ok (.bipush 16, 2) ∧ decode b_Model_punches 9 = .ok (.irem, 1) ∧ decode b_Model_punches 10 = .ok (.iload_n 2, 1) ∧ decode b_Model_punches 11 = .ok (.bipush 16, 2) ∧ decode b_Model_punches 13 = .ok (.idiv, 1) ∧ decode b_Model_punches 14 = .ok (.iadd, 1) ∧ decode b_Model_punches 15 = .ok (.istore 9, 2) ∧ decode b_Model_punches 17 = .ok (.iload 9, 2) ∧ decode b_Model_punches 19 = .ok (.iload_n 2, 1) ∧ decode b_Model_punches 20 = .ok (.bipush 16, 2) ∧ decode b_Model_punches 22 = .ok (.irem, 1) ∧ decode b_Model_punches 23 = .ok (.if_icmp .lt 85, 3) ∧ decode b_Model_punches 26 = .ok (.bipush 48, 2) ∧ decode b_Model_punches 28 = .ok (.lload 6, 2) ∧ decode b_Model_punches 30 = .ok (.ldc2_w 161, 3) ∧ decode b_Model_punches 33 = .ok (.lrem, 1) ∧ decode b_Model_punches 34 = .ok (.l2i, 1) ∧ decode b_Model_punches 35 = .ok (.iadd, 1) ∧ decode b_Model_punches 36 = .ok (.istore 10, 2) ∧ decode b_Model_punches 38 = .ok (.lload 6, 2) ∧ decode b_Model_punches 40 = .ok (.ldc2_w 161, 3) ∧ decode b_Model_punches 43 = .ok (.ldiv, 1) ∧ decode b_Model_punches 44 = .ok (.lstore 6, 2) ∧ decode b_Model_punches 46 = .ok (.iload 8, 2) ∧ decode b_Model_punches 48 = .ok (.ifCond .eq 31, 3) ∧ decode b_Model_punches 51 = .ok (.aload_n 0, 1) ∧ decode b_Model_punches 52 = .ok (.iload_n 1, 1) ∧ decode b_Model_punches 53 = .ok (.iload 9, 2) ∧ decode b_Model_punches 55 = .ok (.invokevirtual 91, 3) ∧ decode b_Model_punches 58 = .ok (.bipush 32, 2) ∧ decode b_Model_punches 60 = .ok (.if_icmp .eq 15, 3) ∧ decode b_Model_punches 63 = .ok (.aload_n 0, 1) ∧ decode b_Model_punches 64 = .ok (.iload_n 1, 1) ∧ decode b_Model_punches 65 = .ok (.iload 9, 2) ∧ decode b_Model_punches 67 = .ok (.invokevirtual 91, 3) ∧ decode b_Model_punches 70 = .ok (.iload 10, 2) ∧ decode b_Model_punches 72 = .ok (.if_icmp .ne 7, 3) ∧ decode b_Model_punches 75 = .ok (.iconst 1, 1) ∧ decode b_Model_punches 76 = .ok (.goto 4, 3) ∧ decode b_Model_punches 79 = .ok (.iconst 0, 1) ∧ decode b_Model_punches 80 = .ok (.istore 8, 2) ∧ decode b_Model_punches 82 = .ok (.iload 5, 2) ∧ decode b_Model_punches 84 = .ok (.ifCond .eq 18, 3) ∧ decode b_Model_punches 87 = .ok (.aload_n 0, 1) ∧ decode b_Model_punches 88 = .ok (.getfield 7, 3) ∧ decode b_Model_punches 91 = .ok (.bipush 16, 2) ∧ decode b_Model_punches 93 = .ok (.iload_n 1, 1) ∧ decode b_Model_punches 94 = .ok (.imul, 1) ∧ decode b_Model_punches 95 = .ok (.iload 9, 2) ∧ decode b_Model_punches 97 = .ok (.iadd, 1) ∧ decode b_Model_punches 98 = .ok (.iload 10, 2) ∧ decode b_Model_punches 100 = .ok (.i2b, 1) ∧ decode b_Model_punches 101 = .ok (.bastore, 1) ∧ decode b_Model_punches 102 = .ok (.iinc 9 (-1), 3) ∧ decode b_Model_punches 105 = .ok (.goto (-88), 3) ∧ decode b_Model_punches 108 = .ok (.iload 8, 2) ∧ decode b_Model_punches 110 = .ok (.ireturn, 1) := ⟨d_Model_punches_0, d_Model_punches_1, d_Model_punches_3, d_Model_punches_4, d_Model_punches_6, d_Model_punches_7, d_Model_punches_9, d_Model_punches_10, d_Model_punches_11, d_Model_punches_13, d_Model_punches_14, d_Model_punches_15, d_Model_punches_17, d_Model_punches_19, d_Model_punches_20, d_Model_punches_22, d_Model_punches_23, d_Model_punches_26, d_Model_punches_28, d_Model_punches_30, d_Model_punches_33, d_Model_punches_34, d_Model_punches_35, d_Model_punches_36, d_Model_punches_38, d_Model_punches_40, d_Model_punches_43, d_Model_punches_44, d_Model_punches_46, d_Model_punches_48, d_Model_punches_51, d_Model_punches_52, d_Model_punches_53, d_Model_punches_55, d_Model_punches_58, d_Model_punches_60, d_Model_punches_63, d_Model_punches_64, d_Model_punches_65, d_Model_punches_67, d_Model_punches_70, d_Model_punches_72, d_Model_punches_75, d_Model_punches_76, d_Model_punches_79, d_Model_punches_80, d_Model_punches_82, d_Model_punches_84, d_Model_punches_87, d_Model_punches_88, d_Model_punches_91, d_Model_punches_93, d_Model_punches_94, d_Model_punches_95, d_Model_punches_97, d_Model_punches_98, d_Model_punches_100, d_Model_punches_101, d_Model_punches_102, d_Model_punches_105, d_Model_punches_108, d_Model_punches_110⟩
theorem v_Model_punches : Cond.instanceMethod y_Model_punches ∈ nm_Ts ∧ Cond.selects y_Model_punches.cls y_Model_punches y_Model_punches ∈ nm_Ts ∧ Cond.initialized y_Model_punches.cls ∈ nm_Ts ∧ Cond.code y_Model_punches b_Model_punches 11 (some .boolean) ∈ nm_Ts ∧ mz_cl1 y_Model_punches 4 := ⟨nm_t5 62 rfl rfl, nm_s 36 rfl rfl, nm_t1 12 rfl rfl, nm_t5 63 rfl rfl, by decide +kernel⟩
def y_Model_tabulate : MethodName := ⟨"CardOfficeModel", "tabulate", "(II)I"⟩
abbrev b_Model_tabulate : ByteArray := prog_14_method_57_code
def r_Model_tabulate (c s : Nat) : Room := { frames := 5, cells := c, slots := s, locals := 128 }
theorem d_Model_tabulate_0 : decode b_Model_tabulate 0 = .ok (.aload_n 0, 1) := by decide +kernel
theorem d_Model_tabulate_1 : decode b_Model_tabulate 1 = .ok (.iload_n 1, 1) := by decide +kernel
theorem d_Model_tabulate_2 : decode b_Model_tabulate 2 = .ok (.invokestatic 82, 3) := by decide +kernel
theorem d_Model_tabulate_5 : decode b_Model_tabulate 5 = .ok (.ifCond .eq 14, 3) := by decide +kernel
theorem d_Model_tabulate_8 : decode b_Model_tabulate 8 = .ok (.iload_n 2, 1) := by decide +kernel
theorem d_Model_tabulate_9 : decode b_Model_tabulate 9 = .ok (.invokestatic 65, 3) := by decide +kernel
theorem d_Model_tabulate_12 : decode b_Model_tabulate 12 = .ok (.ifCond .eq 7, 3) := by decide +kernel
theorem d_Model_tabulate_15 : decode b_Model_tabulate 15 = .ok (.iconst 0, 1) := by decide +kernel
theorem d_Model_tabulate_16 : decode b_Model_tabulate 16 = .ok (.goto 4, 3) := by decide +kernel
theorem d_Model_tabulate_19 : decode b_Model_tabulate 19 = .ok (.iconst 1, 1) := by decide +kernel
theorem d_Model_tabulate_20 : decode b_Model_tabulate 20 = .ok (.putfield 52, 3) := by decide +kernel
theorem d_Model_tabulate_23 : decode b_Model_tabulate 23 = .ok (.aload_n 0, 1) := by decide +kernel
theorem d_Model_tabulate_24 : decode b_Model_tabulate 24 = .ok (.getfield 52, 3) := by decide +kernel
theorem d_Model_tabulate_27 : decode b_Model_tabulate 27 = .ok (.ifCond .le 5, 3) := by decide +kernel
theorem d_Model_tabulate_30 : decode b_Model_tabulate 30 = .ok (.iconst 0, 1) := by decide +kernel
theorem d_Model_tabulate_31 : decode b_Model_tabulate 31 = .ok (.ireturn, 1) := by decide +kernel
theorem d_Model_tabulate_32 : decode b_Model_tabulate 32 = .ok (.iconst 0, 1) := by decide +kernel
theorem d_Model_tabulate_33 : decode b_Model_tabulate 33 = .ok (.istore_n 3, 1) := by decide +kernel
theorem d_Model_tabulate_34 : decode b_Model_tabulate 34 = .ok (.iload_n 3, 1) := by decide +kernel
theorem d_Model_tabulate_35 : decode b_Model_tabulate 35 = .ok (.iconst 4, 1) := by decide +kernel
theorem d_Model_tabulate_36 : decode b_Model_tabulate 36 = .ok (.if_icmp .ge 16, 3) := by decide +kernel
theorem d_Model_tabulate_39 : decode b_Model_tabulate 39 = .ok (.aload_n 0, 1) := by decide +kernel
theorem d_Model_tabulate_40 : decode b_Model_tabulate 40 = .ok (.getfield 39, 3) := by decide +kernel
theorem d_Model_tabulate_43 : decode b_Model_tabulate 43 = .ok (.iload_n 3, 1) := by decide +kernel
theorem d_Model_tabulate_44 : decode b_Model_tabulate 44 = .ok (.iconst 0, 1) := by decide +kernel
theorem d_Model_tabulate_45 : decode b_Model_tabulate 45 = .ok (.iastore, 1) := by decide +kernel
theorem d_Model_tabulate_46 : decode b_Model_tabulate 46 = .ok (.iinc 3 1, 3) := by decide +kernel
theorem d_Model_tabulate_49 : decode b_Model_tabulate 49 = .ok (.goto (-15), 3) := by decide +kernel
theorem d_Model_tabulate_52 : decode b_Model_tabulate 52 = .ok (.aload_n 0, 1) := by decide +kernel
theorem d_Model_tabulate_53 : decode b_Model_tabulate 53 = .ok (.getfield 17, 3) := by decide +kernel
theorem d_Model_tabulate_56 : decode b_Model_tabulate 56 = .ok (.iload_n 2, 1) := by decide +kernel
theorem d_Model_tabulate_57 : decode b_Model_tabulate 57 = .ok (.iaload, 1) := by decide +kernel
theorem d_Model_tabulate_58 : decode b_Model_tabulate 58 = .ok (.istore_n 3, 1) := by decide +kernel
theorem d_Model_tabulate_59 : decode b_Model_tabulate 59 = .ok (.iconst 0, 1) := by decide +kernel
theorem d_Model_tabulate_60 : decode b_Model_tabulate 60 = .ok (.istore 4, 2) := by decide +kernel
theorem d_Model_tabulate_62 : decode b_Model_tabulate 62 = .ok (.iload 4, 2) := by decide +kernel
theorem d_Model_tabulate_64 : decode b_Model_tabulate 64 = .ok (.iload_n 3, 1) := by decide +kernel
theorem d_Model_tabulate_65 : decode b_Model_tabulate 65 = .ok (.if_icmp .ge 113, 3) := by decide +kernel
theorem d_Model_tabulate_68 : decode b_Model_tabulate 68 = .ok (.iconst 0, 1) := by decide +kernel
theorem d_Model_tabulate_69 : decode b_Model_tabulate 69 = .ok (.istore 5, 2) := by decide +kernel
theorem d_Model_tabulate_71 : decode b_Model_tabulate 71 = .ok (.iconst 0, 1) := by decide +kernel
theorem d_Model_tabulate_72 : decode b_Model_tabulate 72 = .ok (.istore 6, 2) := by decide +kernel
theorem d_Model_tabulate_74 : decode b_Model_tabulate 74 = .ok (.iload 6, 2) := by decide +kernel
theorem d_Model_tabulate_76 : decode b_Model_tabulate 76 = .ok (.iconst 3, 1) := by decide +kernel
theorem d_Model_tabulate_77 : decode b_Model_tabulate 77 = .ok (.if_icmp .ge 51, 3) := by decide +kernel
theorem d_Model_tabulate_80 : decode b_Model_tabulate 80 = .ok (.iload 4, 2) := by decide +kernel
theorem d_Model_tabulate_82 : decode b_Model_tabulate 82 = .ok (.ifCond .le 46, 3) := by decide +kernel
theorem d_Model_tabulate_85 : decode b_Model_tabulate 85 = .ok (.aload_n 0, 1) := by decide +kernel
theorem d_Model_tabulate_86 : decode b_Model_tabulate 86 = .ok (.iload_n 1, 1) := by decide +kernel
theorem d_Model_tabulate_87 : decode b_Model_tabulate 87 = .ok (.iload 6, 2) := by decide +kernel
theorem d_Model_tabulate_89 : decode b_Model_tabulate 89 = .ok (.aload_n 0, 1) := by decide +kernel
theorem d_Model_tabulate_90 : decode b_Model_tabulate 90 = .ok (.iload_n 2, 1) := by decide +kernel
theorem d_Model_tabulate_91 : decode b_Model_tabulate 91 = .ok (.iload 4, 2) := by decide +kernel
theorem d_Model_tabulate_93 : decode b_Model_tabulate 93 = .ok (.iconst 1, 1) := by decide +kernel
theorem d_Model_tabulate_94 : decode b_Model_tabulate 94 = .ok (.isub, 1) := by decide +kernel
theorem d_Model_tabulate_95 : decode b_Model_tabulate 95 = .ok (.invokevirtual 98, 3) := by decide +kernel
theorem d_Model_tabulate_98 : decode b_Model_tabulate 98 = .ok (.aload_n 0, 1) := by decide +kernel
theorem d_Model_tabulate_99 : decode b_Model_tabulate 99 = .ok (.iload_n 2, 1) := by decide +kernel
theorem d_Model_tabulate_100 : decode b_Model_tabulate 100 = .ok (.iload 4, 2) := by decide +kernel
theorem d_Model_tabulate_102 : decode b_Model_tabulate 102 = .ok (.invokevirtual 98, 3) := by decide +kernel
theorem d_Model_tabulate_105 : decode b_Model_tabulate 105 = .ok (.invokevirtual 210, 3) := by decide +kernel
theorem d_Model_tabulate_108 : decode b_Model_tabulate 108 = .ok (.ifCond .eq 10, 3) := by decide +kernel
theorem d_Model_tabulate_111 : decode b_Model_tabulate 111 = .ok (.iload 6, 2) := by decide +kernel
theorem d_Model_tabulate_113 : decode b_Model_tabulate 113 = .ok (.iconst 1, 1) := by decide +kernel
theorem d_Model_tabulate_114 : decode b_Model_tabulate 114 = .ok (.iadd, 1) := by decide +kernel
theorem d_Model_tabulate_115 : decode b_Model_tabulate 115 = .ok (.goto 5, 3) := by decide +kernel
theorem d_Model_tabulate_118 : decode b_Model_tabulate 118 = .ok (.iload 5, 2) := by decide +kernel
theorem d_Model_tabulate_120 : decode b_Model_tabulate 120 = .ok (.istore 5, 2) := by decide +kernel
theorem d_Model_tabulate_122 : decode b_Model_tabulate 122 = .ok (.iinc 6 1, 3) := by decide +kernel
theorem d_Model_tabulate_125 : decode b_Model_tabulate 125 = .ok (.goto (-51), 3) := by decide +kernel
theorem d_Model_tabulate_128 : decode b_Model_tabulate 128 = .ok (.aload_n 0, 1) := by decide +kernel
theorem d_Model_tabulate_129 : decode b_Model_tabulate 129 = .ok (.iload_n 1, 1) := by decide +kernel
theorem d_Model_tabulate_130 : decode b_Model_tabulate 130 = .ok (.aload_n 0, 1) := by decide +kernel
theorem d_Model_tabulate_131 : decode b_Model_tabulate 131 = .ok (.iload_n 2, 1) := by decide +kernel
theorem d_Model_tabulate_132 : decode b_Model_tabulate 132 = .ok (.iload 4, 2) := by decide +kernel
theorem d_Model_tabulate_134 : decode b_Model_tabulate 134 = .ok (.invokevirtual 98, 3) := by decide +kernel
theorem d_Model_tabulate_137 : decode b_Model_tabulate 137 = .ok (.iload 5, 2) := by decide +kernel
theorem d_Model_tabulate_139 : decode b_Model_tabulate 139 = .ok (.invokevirtual 213, 3) := by decide +kernel
theorem d_Model_tabulate_142 : decode b_Model_tabulate 142 = .ok (.istore 6, 2) := by decide +kernel
theorem d_Model_tabulate_144 : decode b_Model_tabulate 144 = .ok (.iload 6, 2) := by decide +kernel
theorem d_Model_tabulate_146 : decode b_Model_tabulate 146 = .ok (.ifCond .le 12, 3) := by decide +kernel
theorem d_Model_tabulate_149 : decode b_Model_tabulate 149 = .ok (.aload_n 0, 1) := by decide +kernel
theorem d_Model_tabulate_150 : decode b_Model_tabulate 150 = .ok (.iload 6, 2) := by decide +kernel
theorem d_Model_tabulate_152 : decode b_Model_tabulate 152 = .ok (.iload 4, 2) := by decide +kernel
theorem d_Model_tabulate_154 : decode b_Model_tabulate 154 = .ok (.invokevirtual 155, 3) := by decide +kernel
theorem d_Model_tabulate_157 : decode b_Model_tabulate 157 = .ok (.ireturn, 1) := by decide +kernel
theorem d_Model_tabulate_158 : decode b_Model_tabulate 158 = .ok (.aload_n 0, 1) := by decide +kernel
theorem d_Model_tabulate_159 : decode b_Model_tabulate 159 = .ok (.iload_n 1, 1) := by decide +kernel
theorem d_Model_tabulate_160 : decode b_Model_tabulate 160 = .ok (.aload_n 0, 1) := by decide +kernel
theorem d_Model_tabulate_161 : decode b_Model_tabulate 161 = .ok (.iload_n 2, 1) := by decide +kernel
theorem d_Model_tabulate_162 : decode b_Model_tabulate 162 = .ok (.iload 4, 2) := by decide +kernel
theorem d_Model_tabulate_164 : decode b_Model_tabulate 164 = .ok (.invokevirtual 98, 3) := by decide +kernel
theorem d_Model_tabulate_167 : decode b_Model_tabulate 167 = .ok (.iload 5, 2) := by decide +kernel
theorem d_Model_tabulate_169 : decode b_Model_tabulate 169 = .ok (.invokevirtual 216, 3) := by decide +kernel
theorem d_Model_tabulate_172 : decode b_Model_tabulate 172 = .ok (.iinc 4 1, 3) := by decide +kernel
theorem d_Model_tabulate_175 : decode b_Model_tabulate 175 = .ok (.goto (-113), 3) := by decide +kernel
theorem d_Model_tabulate_178 : decode b_Model_tabulate 178 = .ok (.iload_n 3, 1) := by decide +kernel
theorem d_Model_tabulate_179 : decode b_Model_tabulate 179 = .ok (.ifCond .le 11, 3) := by decide +kernel
theorem d_Model_tabulate_182 : decode b_Model_tabulate 182 = .ok (.aload_n 0, 1) := by decide +kernel
theorem d_Model_tabulate_183 : decode b_Model_tabulate 183 = .ok (.iload_n 1, 1) := by decide +kernel
theorem d_Model_tabulate_184 : decode b_Model_tabulate 184 = .ok (.invokevirtual 220, 3) := by decide +kernel
theorem d_Model_tabulate_187 : decode b_Model_tabulate 187 = .ok (.goto 4, 3) := by decide +kernel
theorem d_Model_tabulate_190 : decode b_Model_tabulate 190 = .ok (.iconst 0, 1) := by decide +kernel
theorem d_Model_tabulate_191 : decode b_Model_tabulate 191 = .ok (.istore 4, 2) := by decide +kernel
theorem d_Model_tabulate_193 : decode b_Model_tabulate 193 = .ok (.iload 4, 2) := by decide +kernel
theorem d_Model_tabulate_195 : decode b_Model_tabulate 195 = .ok (.ifCond .le 11, 3) := by decide +kernel
theorem d_Model_tabulate_198 : decode b_Model_tabulate 198 = .ok (.aload_n 0, 1) := by decide +kernel
theorem d_Model_tabulate_199 : decode b_Model_tabulate 199 = .ok (.iload 4, 2) := by decide +kernel
theorem d_Model_tabulate_201 : decode b_Model_tabulate 201 = .ok (.iload_n 3, 1) := by decide +kernel
theorem d_Model_tabulate_202 : decode b_Model_tabulate 202 = .ok (.invokevirtual 155, 3) := by decide +kernel
theorem d_Model_tabulate_205 : decode b_Model_tabulate 205 = .ok (.ireturn, 1) := by decide +kernel
theorem d_Model_tabulate_206 : decode b_Model_tabulate 206 = .ok (.iconst 0, 1) := by decide +kernel
theorem d_Model_tabulate_207 : decode b_Model_tabulate 207 = .ok (.istore 5, 2) := by decide +kernel
theorem d_Model_tabulate_209 : decode b_Model_tabulate 209 = .ok (.iload 5, 2) := by decide +kernel
theorem d_Model_tabulate_211 : decode b_Model_tabulate 211 = .ok (.iconst 4, 1) := by decide +kernel
theorem d_Model_tabulate_212 : decode b_Model_tabulate 212 = .ok (.if_icmp .ge 20, 3) := by decide +kernel
theorem d_Model_tabulate_215 : decode b_Model_tabulate 215 = .ok (.iload_n 3, 1) := by decide +kernel
theorem d_Model_tabulate_216 : decode b_Model_tabulate 216 = .ok (.ifCond .le 16, 3) := by decide +kernel
theorem d_Model_tabulate_219 : decode b_Model_tabulate 219 = .ok (.aload_n 0, 1) := by decide +kernel
theorem d_Model_tabulate_220 : decode b_Model_tabulate 220 = .ok (.iload_n 1, 1) := by decide +kernel
theorem d_Model_tabulate_221 : decode b_Model_tabulate 221 = .ok (.iload 5, 2) := by decide +kernel
theorem d_Model_tabulate_223 : decode b_Model_tabulate 223 = .ok (.invokevirtual 207, 3) := by decide +kernel
theorem d_Model_tabulate_226 : decode b_Model_tabulate 226 = .ok (.iinc 5 1, 3) := by decide +kernel
theorem d_Model_tabulate_229 : decode b_Model_tabulate 229 = .ok (.goto (-20), 3) := by decide +kernel
theorem d_Model_tabulate_232 : decode b_Model_tabulate 232 = .ok (.aload_n 0, 1) := by decide +kernel
theorem d_Model_tabulate_233 : decode b_Model_tabulate 233 = .ok (.iconst 0, 1) := by decide +kernel
theorem d_Model_tabulate_234 : decode b_Model_tabulate 234 = .ok (.iconst (-1), 1) := by decide +kernel
theorem d_Model_tabulate_235 : decode b_Model_tabulate 235 = .ok (.invokevirtual 155, 3) := by decide +kernel
theorem d_Model_tabulate_238 : decode b_Model_tabulate 238 = .ok (.pop, 1) := by decide +kernel
theorem d_Model_tabulate_239 : decode b_Model_tabulate 239 = .ok (.iload_n 3, 1) := by decide +kernel
theorem d_Model_tabulate_240 : decode b_Model_tabulate 240 = .ok (.ireturn, 1) := by decide +kernel
theorem d_Model_tabulate : decode b_Model_tabulate 0 = .ok (.aload_n 0, 1) ∧ decode b_Model_tabulate 1 = .ok (.iload_n 1, 1) ∧ decode b_Model_tabulate 2 = .ok (.invokestatic 82, 3) ∧ decode b_Model_tabulate 5 = .ok (.ifCond .eq 14, 3) ∧ decode b_Model_tabulate 8 = .ok (.iload_n 2, 1) ∧ decode b_Model_tabulate 9 = .ok (.invokestatic 65, 3) ∧ decode b_Model_tabulate 12 = .ok (.ifCond .eq 7, 3) ∧ decode b_Model_tabulate 15 = .ok (.iconst 0, 1) ∧ decode b_Model_tabulate 16 = .ok (.goto 4, 3) ∧ decode b_Model_tabulate 19 = .ok (.iconst 1, 1) ∧ decode b_Model_tabulate 20 = .ok (.putfield 52, 3) ∧ decode b_Model_tabulate 23 = .ok (.aload_n 0, 1) ∧ decode b_Model_tabulate 24 = .ok (.getfield 52, 3) ∧ decode b_Model_tabulate 27 = .ok (.ifCond .le 5, 3) ∧ decode b_Model_tabulate 30 = .ok (.iconst 0, 1) ∧ decode b_Model_tabulate 31 = .ok (.ireturn, 1) ∧ decode b_Model_tabulate 32 = .ok (.iconst 0, 1) ∧ decode b_Model_tabulate 33 = .ok (.istore_n 3, 1) ∧ decode b_Model_tabulate 34 = .ok (.iload_n 3, 1) ∧ decode b_Model_tabulate 35 = .ok (.iconst 4, 1) ∧ decode b_Model_tabulate 36 = .ok (.if_icmp .ge 16, 3) ∧ decode b_Model_tabulate 39 = .ok (.aload_n 0, 1) ∧ decode b_Model_tabulate 40 = .ok (.getfield 39, 3) ∧ decode b_Model_tabulate 43 = .ok (.iload_n 3, 1) ∧ decode b_Model_tabulate 44 = .ok (.iconst 0, 1) ∧ decode b_Model_tabulate 45 = .ok (.iastore, 1) ∧ decode b_Model_tabulate 46 = .ok (.iinc 3 1, 3) ∧ decode b_Model_tabulate 49 = .ok (.goto (-15), 3) ∧ decode b_Model_tabulate 52 = .ok (.aload_n 0, 1) ∧ decode b_Model_tabulate 53 = .ok (.getfield 17, 3) ∧ decode b_Model_tabulate 56 = .ok (.iload_n 2, 1) ∧ decode b_Model_tabulate 57 = .ok (.iaload, 1) ∧ decode b_Model_tabulate 58 = .ok (.istore_n 3, 1) ∧ decode b_Model_tabulate 59 = .ok (.iconst 0, 1) ∧ decode b_Model_tabulate 60 = .ok (.istore 4, 2) ∧ decode b_Model_tabulate 62 = .ok (.iload 4, 2) ∧ decode b_Model_tabulate 64 = .ok (.iload_n 3, 1) ∧ decode b_Model_tabulate 65 = .ok (.if_icmp .ge 113, 3) ∧ decode b_Model_tabulate 68 = .ok (.iconst 0, 1) ∧ decode b_Model_tabulate 69 = .ok (.istore 5, 2) ∧ decode b_Model_tabulate 71 = .ok (.iconst 0, 1) ∧ decode b_Model_tabulate 72 = .ok (.istore 6, 2) ∧ decode b_Model_tabulate 74 = .ok (.iload 6, 2) ∧ decode b_Model_tabulate 76 = .ok (.iconst 3, 1) ∧ decode b_Model_tabulate 77 = .ok (.if_icmp .ge 51, 3) ∧ decode b_Model_tabulate 80 = .ok (.iload 4, 2) ∧ decode b_Model_tabulate 82 = .ok (.ifCond .le 46, 3) ∧ decode b_Model_tabulate 85 = .ok (.aload_n 0, 1) ∧ decode b_Model_tabulate 86 = .ok (.iload_n 1, 1) ∧ decode b_Model_tabulate 87 = .ok (.iload 6, 2) ∧ decode b_Model_tabulate 89 = .ok (.aload_n 0, 1) ∧ decode b_Model_tabulate 90 = .ok (.iload_n 2, 1) ∧ decode b_Model_tabulate 91 = .ok (.iload 4, 2) ∧ decode b_Model_tabulate 93 = .ok (.iconst 1, 1) ∧ decode b_Model_tabulate 94 = .ok (.isub, 1) ∧ decode b_Model_tabulate 95 = .ok (.invokevirtual 98, 3) ∧ decode b_Model_tabulate 98 = .ok (.aload_n 0, 1) ∧ decode b_Model_tabulate 99 = .ok (.iload_n 2, 1) ∧ decode b_Model_tabulate 100 = .ok (.iload 4, 2) ∧ decode b_Model_tabulate 102 = .ok (.invokevirtual 98, 3) ∧ decode b_Model_tabulate 105 = .ok (.invokevirtual 210, 3) ∧ decode b_Model_tabulate 108 = .ok (.ifCond .eq 10, 3) ∧ decode b_Model_tabulate 111 = .ok (.iload 6, 2) ∧ decode b_Model_tabulate 113 = .ok (.iconst 1, 1) ∧ decode b_Model_tabulate 114 = .ok (.iadd, 1) ∧ decode b_Model_tabulate 115 = .ok (.goto 5, 3) ∧ decode b_Model_tabulate 118 = .ok (.iload 5, 2) ∧ decode b_Model_tabulate 120 = .ok (.istore 5, 2) ∧ decode b_Model_tabulate 122 = .ok (.iinc 6 1, 3) ∧ decode b_Model_tabulate 125 = .ok (.goto (-51), 3) ∧ decode b_Model_tabulate 128 = .ok (.aload_n 0, 1) ∧ decode b_Model_tabulate 129 = .ok (.iload_n 1, 1) ∧ decode b_Model_tabulate 130 = .ok (.aload_n 0, 1) ∧ decode b_Model_tabulate 131 = .ok (.iload_n 2, 1) ∧ decode b_Model_tabulate 132 = .ok (.iload 4, 2) ∧ decode b_Model_tabulate 134 = .ok (.invokevirtual 98, 3) ∧ decode b_Model_tabulate 137 = .ok (.iload 5, 2) ∧ decode b_Model_tabulate 139 = .ok (.invokevirtual 213, 3) ∧ decode b_Model_tabulate 142 = .ok (.istore 6, 2) ∧ decode b_Model_tabulate 144 = .ok (.iload 6, 2) ∧ decode b_Model_tabulate 146 = .ok (.ifCond .le 12, 3) ∧ decode b_Model_tabulate 149 = .ok (.aload_n 0, 1) ∧ decode b_Model_tabulate 150 = .ok (.iload 6, 2) ∧ decode b_Model_tabulate 152 = .ok (.iload 4, 2) ∧ decode b_Model_tabulate 154 = .ok (.invokevirtual 155, 3) ∧ decode b_Model_tabulate 157 = .ok (.ireturn, 1) ∧ decode b_Model_tabulate 158 = .ok (.aload_n 0, 1) ∧ decode b_Model_tabulate 159 = .ok (.iload_n 1, 1) ∧ decode b_Model_tabulate 160 = .ok (.aload_n 0, 1) ∧ decode b_Model_tabulate 161 = .ok (.iload_n 2, 1) ∧ decode b_Model_tabulate 162 = .ok (.iload 4, 2) ∧ decode b_Model_tabulate 164 = .ok (.invokevirtual 98, 3) ∧ decode b_Model_tabulate 167 = .ok (.iload 5, 2) ∧ decode b_Model_tabulate 169 = .ok (.invokevirtual 216, 3) ∧ decode b_Model_tabulate 172 = .ok (.iinc 4 1, 3) ∧ decode b_Model_tabulate 175 = .ok (.goto (-113), 3) ∧ decode b_Model_tabulate 178 = .ok (.iload_n 3, 1) ∧ decode b_Model_tabulate 179 = .ok (.ifCond .le 11, 3) ∧ decode b_Model_tabulate 182 = .ok (.aload_n 0, 1) ∧ decode b_Model_tabulate 183 = .ok (.iload_n 1, 1) ∧ decode b_Model_tabulate 184 = .ok (.invokevirtual 220, 3) ∧ decode b_Model_tabulate 187 = .ok (.goto 4, 3) ∧ decode b_Model_tabulate 190 = .ok (.iconst 0, 1) ∧ decode b_Model_tabulate 191 = .ok (.istore 4, 2) ∧ decode b_Model_tabulate 193 = .ok (.iload 4, 2) ∧ decode b_Model_tabulate 195 = .ok (.ifCond .le 11, 3) ∧ decode b_Model_tabulate 198 = .ok (.aload_n 0, 1) ∧ decode b_Model_tabulate 199 = .ok (.iload 4, 2) ∧ decode b_Model_tabulate 201 = .ok (.iload_n 3, 1) ∧ decode b_Model_tabulate 202 = .ok (.invokevirtual 155, 3) ∧ decode b_Model_tabulate 205 = .ok (.ireturn, 1) ∧ decode b_Model_tabulate 206 = .ok (.iconst 0, 1) ∧ decode b_Model_tabulate 207 = .ok (.istore 5, 2) ∧ decode b_Model_tabulate 209 = .ok (.iload 5, 2) ∧ decode b_Model_tabulate 211 = .ok (.iconst 4, 1) ∧ decode b_Model_tabulate 212 = .ok (.if_icmp .ge 20, 3) ∧ decode b_Model_tabulate 215 = .ok (.iload_n 3, 1) ∧ decode b_Model_tabulate 216 = .ok (.ifCond .le 16, 3) ∧ decode b_Model_tabulate 219 = .ok (.aload_n 0, 1) ∧ decode b_Model_tabulate 220 = .ok (.iload_n 1, 1) ∧ decode b_Model_tabulate 221 = .ok (.iload 5, 2) ∧ decode b_Model_tabulate 223 = .ok (.invokevirtual 207, 3) ∧ decode b_Model_tabulate 226 = .ok (.iinc 5 1, 3) ∧ decode b_Model_tabulate 229 = .ok (.goto (-20), 3) ∧ decode b_Model_tabulate 232 = .ok (.aload_n 0, 1) ∧ decode b_Model_tabulate 233 = .ok (.iconst 0, 1) ∧ decode b_Model_tabulate 234 = .ok (.iconst (-1), 1) ∧ decode b_Model_tabulate 235 = .ok (.invokevirtual 155, 3) ∧ decode b_Model_tabulate 238 = .ok (.pop, 1) ∧ decode b_Model_tabulate 239 = .ok (.iload_n 3, 1) ∧ decode b_Model_tabulate 240 = .ok (.ireturn, 1) := ⟨d_Model_tabulate_0, d_Model_tabulate_1, d_Model_tabulate_2, d_Model_tabulate_5, d_Model_tabulate_8, d_Model_tabulate_9, d_Model_tabulate_12, d_Model_tabulate_15, d_Model_tabulate_16, d_Model_tabulate_19, d_Model_tabulate_20, d_Model_tabulate_23, d_Model_tabulate_24, d_Model_tabulate_27, d_Model_tabulate_30, d_Model_tabulate_31, d_Model_tabulate_32, d_Model_tabulate_33, d_Model_tabulate_34, d_Model_tabulate_35, d_Model_tabulate_36, d_Model_tabulate_39, d_Model_tabulate_40, d_Model_tabulate_43, d_Model_tabulate_44, d_Model_tabulate_45, d_Model_tabulate_46, d_Model_tabulate_49, d_Model_tabulate_52, d_Model_tabulate_53, d_Model_tabulate_56, d_Model_tabulate_57, d_Model_tabulate_58, d_Model_tabulate_59, d_Model_tabulate_60, d_Model_tabulate_62, d_Model_tabulate_64, d_Model_tabulate_65, d_Model_tabulate_68, d_Model_tabulate_69, d_Model_tabulate_71, d_Model_tabulate_72, d_Model_tabulate_74, d_Model_tabulate_76, d_Model_tabulate_77, d_Model_tabulate_80, d_Model_tabulate_82, d_Model_tabulate_85, d_Model_tabulate_86, d_Model_tabulate_87, d_Model_tabulate_89, d_Model_tabulate_90, d_Model_tabulate_91, d_Model_tabulate_93, d_Model_tabulate_94, d_Model_tabulate_95, d_Model_tabulate_98, d_Model_tabulate_99, d_Model_tabulate_100, d_Model_tabulate_102, d_Model_tabulate_105, d_Model_tabulate_108, d_Model_tabulate_111, d_Model_tabulate_113, d_Model_tabulate_114, d_Model_tabulate_115, d_Model_tabulate_118, d_Model_tabulate_120, d_Model_tabulate_122, d_Model_tabulate_125, d_Model_tabulate_128, d_Model_tabulate_129, d_Model_tabulate_130, d_Model_tabulate_131, d_Model_tabulate_132, d_Model_tabulate_134, d_Model_tabulate_137, d_Model_tabulate_139, d_Model_tabulate_142, d_Model_tabulate_144, d_Model_tabulate_146, d_Model_tabulate_149, d_Model_tabulate_150, d_Model_tabulate_152, d_Model_tabulate_154, d_Model_tabulate_157, d_Model_tabulate_158, d_Model_tabulate_159, d_Model_tabulate_160, d_Model_tabulate_161, d_Model_tabulate_162, d_Model_tabulate_164, d_Model_tabulate_167, d_Model_tabulate_169, d_Model_tabulate_172, d_Model_tabulate_175, d_Model_tabulate_178, d_Model_tabulate_179, d_Model_tabulate_182, d_Model_tabulate_183, d_Model_tabulate_184, d_Model_tabulate_187, d_Model_tabulate_190, d_Model_tabulate_191, d_Model_tabulate_193, d_Model_tabulate_195, d_Model_tabulate_198, d_Model_tabulate_199, d_Model_tabulate_201, d_Model_tabulate_202, d_Model_tabulate_205, d_Model_tabulate_206, d_Model_tabulate_207, d_Model_tabulate_209, d_Model_tabulate_211, d_Model_tabulate_212, d_Model_tabulate_215, d_Model_tabulate_216, d_Model_tabulate_219, d_Model_tabulate_220, d_Model_tabulate_221, d_Model_tabulate_223, d_Model_tabulate_226, d_Model_tabulate_229, d_Model_tabulate_232, d_Model_tabulate_233, d_Model_tabulate_234, d_Model_tabulate_235, d_Model_tabulate_238, d_Model_tabulate_239, d_Model_tabulate_240⟩
theorem v_Model_tabulate : Cond.instanceMethod y_Model_tabulate ∈ nm_Ts ∧ Cond.selects y_Model_tabulate.cls y_Model_tabulate y_Model_tabulate ∈ nm_Ts ∧ Cond.initialized y_Model_tabulate.cls ∈ nm_Ts ∧ Cond.code y_Model_tabulate b_Model_tabulate 7 (some .int) ∈ nm_Ts ∧ mz_cl1 y_Model_tabulate 2 := ⟨nm_t5 65 rfl rfl, nm_t5 66 rfl rfl, nm_t1 12 rfl rfl, nm_t5 67 rfl rfl, by decide +kernel⟩
def y_Model_breaks : MethodName := ⟨"CardOfficeModel", "breaks", "(IIII)Z"⟩
abbrev b_Model_breaks : ByteArray := prog_14_method_45_code
def r_Model_breaks (c s : Nat) : Room := { frames := 1, cells := c, slots := s, locals := 22 }
theorem d_Model_breaks_0 : decode b_Model_breaks 0 = .ok (.iconst 0, 1) := by decide +kernel
theorem d_Model_breaks_1 : decode b_Model_breaks 1 = .ok (.istore 5, 2) := by decide +kernel
theorem d_Model_breaks_3 : decode b_Model_breaks 3 = .ok (.bipush 40, 2) := by decide +kernel
theorem d_Model_breaks_5 : decode b_Model_breaks 5 = .ok (.iload_n 1, 1) := by decide +kernel
theorem d_Model_breaks_6 : decode b_Model_breaks 6 = .ok (.imul, 1) := by decide +kernel
theorem d_Model_breaks_7 : decode b_Model_breaks 7 = .ok (.istore 6, 2) := by decide +kernel
theorem d_Model_breaks_9 : decode b_Model_breaks 9 = .ok (.iload 6, 2) := by decide +kernel
theorem d_Model_breaks_11 : decode b_Model_breaks 11 = .ok (.bipush 40, 2) := by decide +kernel
theorem d_Model_breaks_13 : decode b_Model_breaks 13 = .ok (.iload_n 1, 1) := by decide +kernel
theorem d_Model_breaks_14 : decode b_Model_breaks 14 = .ok (.imul, 1) := by decide +kernel
theorem d_Model_breaks_15 : decode b_Model_breaks 15 = .ok (.aload_n 0, 1) := by decide +kernel
theorem d_Model_breaks_16 : decode b_Model_breaks 16 = .ok (.getfield 33, 3) := by decide +kernel
theorem d_Model_breaks_19 : decode b_Model_breaks 19 = .ok (.iload_n 1, 1) := by decide +kernel
theorem d_Model_breaks_20 : decode b_Model_breaks 20 = .ok (.iaload, 1) := by decide +kernel
theorem d_Model_breaks_21 : decode b_Model_breaks 21 = .ok (.iadd, 1) := by decide +kernel
theorem d_Model_breaks_22 : decode b_Model_breaks 22 = .ok (.if_icmp .ge 116, 3) := by decide +kernel
theorem d_Model_breaks_25 : decode b_Model_breaks 25 = .ok (.aload_n 0, 1) := by decide +kernel
theorem d_Model_breaks_26 : decode b_Model_breaks 26 = .ok (.getfield 30, 3) := by decide +kernel
theorem d_Model_breaks_29 : decode b_Model_breaks 29 = .ok (.iload 6, 2) := by decide +kernel
theorem d_Model_breaks_31 : decode b_Model_breaks 31 = .ok (.baload, 1) := by decide +kernel
theorem d_Model_breaks_32 : decode b_Model_breaks 32 = .ok (.istore 7, 2) := by decide +kernel
theorem d_Model_breaks_34 : decode b_Model_breaks 34 = .ok (.iload 7, 2) := by decide +kernel
theorem d_Model_breaks_36 : decode b_Model_breaks 36 = .ok (.bipush 96, 2) := by decide +kernel
theorem d_Model_breaks_38 : decode b_Model_breaks 38 = .ok (.iload_n 2, 1) := by decide +kernel
theorem d_Model_breaks_39 : decode b_Model_breaks 39 = .ok (.iadd, 1) := by decide +kernel
theorem d_Model_breaks_40 : decode b_Model_breaks 40 = .ok (.if_icmp .lt 26, 3) := by decide +kernel
theorem d_Model_breaks_43 : decode b_Model_breaks 43 = .ok (.iload 7, 2) := by decide +kernel
theorem d_Model_breaks_45 : decode b_Model_breaks 45 = .ok (.bipush 99, 2) := by decide +kernel
theorem d_Model_breaks_47 : decode b_Model_breaks 47 = .ok (.if_icmp .ge 19, 3) := by decide +kernel
theorem d_Model_breaks_50 : decode b_Model_breaks 50 = .ok (.aload_n 0, 1) := by decide +kernel
theorem d_Model_breaks_51 : decode b_Model_breaks 51 = .ok (.getfield 27, 3) := by decide +kernel
theorem d_Model_breaks_54 : decode b_Model_breaks 54 = .ok (.iload 6, 2) := by decide +kernel
theorem d_Model_breaks_56 : decode b_Model_breaks 56 = .ok (.baload, 1) := by decide +kernel
theorem d_Model_breaks_57 : decode b_Model_breaks 57 = .ok (.bipush 16, 2) := by decide +kernel
theorem d_Model_breaks_59 : decode b_Model_breaks 59 = .ok (.if_icmp .ge 7, 3) := by decide +kernel
theorem d_Model_breaks_62 : decode b_Model_breaks 62 = .ok (.iconst 1, 1) := by decide +kernel
theorem d_Model_breaks_63 : decode b_Model_breaks 63 = .ok (.goto 4, 3) := by decide +kernel
theorem d_Model_breaks_66 : decode b_Model_breaks 66 = .ok (.iconst 0, 1) := by decide +kernel
theorem d_Model_breaks_67 : decode b_Model_breaks 67 = .ok (.istore 8, 2) := by decide +kernel
theorem d_Model_breaks_69 : decode b_Model_breaks 69 = .ok (.iload 5, 2) := by decide +kernel
theorem d_Model_breaks_71 : decode b_Model_breaks 71 = .ok (.ifCond .ne 54, 3) := by decide +kernel
theorem d_Model_breaks_74 : decode b_Model_breaks 74 = .ok (.iload 8, 2) := by decide +kernel
theorem d_Model_breaks_76 : decode b_Model_breaks 76 = .ok (.ifCond .eq 53, 3) := by decide +kernel
theorem d_Model_breaks_79 : decode b_Model_breaks 79 = .ok (.aload_n 0, 1) := by decide +kernel
theorem d_Model_breaks_80 : decode b_Model_breaks 80 = .ok (.iload_n 3, 1) := by decide +kernel
theorem d_Model_breaks_81 : decode b_Model_breaks 81 = .ok (.iload 8, 2) := by decide +kernel
theorem d_Model_breaks_83 : decode b_Model_breaks 83 = .ok (.ifCond .eq 13, 3) := by decide +kernel
theorem d_Model_breaks_86 : decode b_Model_breaks 86 = .ok (.aload_n 0, 1) := by decide +kernel
theorem d_Model_breaks_87 : decode b_Model_breaks 87 = .ok (.getfield 27, 3) := by decide +kernel
theorem d_Model_breaks_90 : decode b_Model_breaks 90 = .ok (.iload 6, 2) := by decide +kernel
theorem d_Model_breaks_92 : decode b_Model_breaks 92 = .ok (.baload, 1) := by decide +kernel
theorem d_Model_breaks_93 : decode b_Model_breaks 93 = .ok (.goto 4, 3) := by decide +kernel
theorem d_Model_breaks_96 : decode b_Model_breaks 96 = .ok (.iconst 0, 1) := by decide +kernel
theorem d_Model_breaks_97 : decode b_Model_breaks 97 = .ok (.invokevirtual 91, 3) := by decide +kernel
theorem d_Model_breaks_100 : decode b_Model_breaks 100 = .ok (.aload_n 0, 1) := by decide +kernel
theorem d_Model_breaks_101 : decode b_Model_breaks 101 = .ok (.iload 4, 2) := by decide +kernel
theorem d_Model_breaks_103 : decode b_Model_breaks 103 = .ok (.iload 8, 2) := by decide +kernel
theorem d_Model_breaks_105 : decode b_Model_breaks 105 = .ok (.ifCond .eq 13, 3) := by decide +kernel
theorem d_Model_breaks_108 : decode b_Model_breaks 108 = .ok (.aload_n 0, 1) := by decide +kernel
theorem d_Model_breaks_109 : decode b_Model_breaks 109 = .ok (.getfield 27, 3) := by decide +kernel
theorem d_Model_breaks_112 : decode b_Model_breaks 112 = .ok (.iload 6, 2) := by decide +kernel
theorem d_Model_breaks_114 : decode b_Model_breaks 114 = .ok (.baload, 1) := by decide +kernel
theorem d_Model_breaks_115 : decode b_Model_breaks 115 = .ok (.goto 4, 3) := by decide +kernel
theorem d_Model_breaks_118 : decode b_Model_breaks 118 = .ok (.iconst 0, 1) := by decide +kernel
theorem d_Model_breaks_119 : decode b_Model_breaks 119 = .ok (.invokevirtual 91, 3) := by decide +kernel
theorem d_Model_breaks_122 : decode b_Model_breaks 122 = .ok (.if_icmp .eq 7, 3) := by decide +kernel
theorem d_Model_breaks_125 : decode b_Model_breaks 125 = .ok (.iconst 1, 1) := by decide +kernel
theorem d_Model_breaks_126 : decode b_Model_breaks 126 = .ok (.goto 4, 3) := by decide +kernel
theorem d_Model_breaks_129 : decode b_Model_breaks 129 = .ok (.iconst 0, 1) := by decide +kernel
theorem d_Model_breaks_130 : decode b_Model_breaks 130 = .ok (.istore 5, 2) := by decide +kernel
theorem d_Model_breaks_132 : decode b_Model_breaks 132 = .ok (.iinc 6 1, 3) := by decide +kernel
theorem d_Model_breaks_135 : decode b_Model_breaks 135 = .ok (.goto (-126), 3) := by decide +kernel
theorem d_Model_breaks_138 : decode b_Model_breaks 138 = .ok (.iload 5, 2) := by decide +kernel
theorem d_Model_breaks_140 : decode b_Model_breaks 140 = .ok (.ireturn, 1) := by decide +kernel
theorem d_Model_breaks : decode b_Model_breaks 0 = .ok (.iconst 0, 1) ∧ decode b_Model_breaks 1 = .ok (.istore 5, 2) ∧ decode b_Model_breaks 3 = .ok (.bipush 40, 2) ∧ decode b_Model_breaks 5 = .ok (.iload_n 1, 1) ∧ decode b_Model_breaks 6 = .ok (.imul, 1) ∧ decode b_Model_breaks 7 = .ok (.istore 6, 2) ∧ decode b_Model_breaks 9 = .ok (.iload 6, 2) ∧ decode b_Model_breaks 11 = .ok (.bipush 40, 2) ∧ decode b_Model_breaks 13 = .ok (.iload_n 1, 1) ∧ decode b_Model_breaks 14 = .ok (.imul, 1) ∧ decode b_Model_breaks 15 = .ok (.aload_n 0, 1) ∧ decode b_Model_breaks 16 = .ok (.getfield 33, 3) ∧ decode b_Model_breaks 19 = .ok (.iload_n 1, 1) ∧ decode b_Model_breaks 20 = .ok (.iaload, 1) ∧ decode b_Model_breaks 21 = .ok (.iadd, 1) ∧ decode b_Model_breaks 22 = .ok (.if_icmp .ge 116, 3) ∧ decode b_Model_breaks 25 = .ok (.aload_n 0, 1) ∧ decode b_Model_breaks 26 = .ok (.getfield 30, 3) ∧ decode b_Model_breaks 29 = .ok (.iload 6, 2) ∧ decode b_Model_breaks 31 = .ok (.baload, 1) ∧ decode b_Model_breaks 32 = .ok (.istore 7, 2) ∧ decode b_Model_breaks 34 = .ok (.iload 7, 2) ∧ decode b_Model_breaks 36 = .ok (.bipush 96, 2) ∧ decode b_Model_breaks 38 = .ok (.iload_n 2, 1) ∧ decode b_Model_breaks 39 = .ok (.iadd, 1) ∧ decode b_Model_breaks 40 = .ok (.if_icmp .lt 26, 3) ∧ decode b_Model_breaks 43 = .ok (.iload 7, 2) ∧ decode b_Model_breaks 45 = .ok (.bipush 99, 2) ∧ decode b_Model_breaks 47 = .ok (.if_icmp .ge 19, 3) ∧ decode b_Model_breaks 50 = .ok (.aload_n 0, 1) ∧ decode b_Model_breaks 51 = .ok (.getfield 27, 3) ∧ decode b_Model_breaks 54 = .ok (.iload 6, 2) ∧ decode b_Model_breaks 56 = .ok (.baload, 1) ∧ decode b_Model_breaks 57 = .ok (.bipush 16, 2) ∧ decode b_Model_breaks 59 = .ok (.if_icmp .ge 7, 3) ∧ decode b_Model_breaks 62 = .ok (.iconst 1, 1) ∧ decode b_Model_breaks 63 = .ok (.goto 4, 3) ∧ decode b_Model_breaks 66 = .ok (.iconst 0, 1) ∧ decode b_Model_breaks 67 = .ok (.istore 8, 2) ∧ decode b_Model_breaks 69 = .ok (.iload 5, 2) ∧ decode b_Model_breaks 71 = .ok (.ifCond .ne 54, 3) ∧ decode b_Model_breaks 74 = .ok (.iload 8, 2) ∧ decode b_Model_breaks 76 = .ok (.ifCond .eq 53, 3) ∧ decode b_Model_breaks 79 = .ok (.aload_n 0, 1) ∧ decode b_Model_breaks 80 = .ok (.iload_n 3, 1) ∧ decode b_Model_breaks 81 = .ok (.iload 8, 2) ∧ decode b_Model_breaks 83 = .ok (.ifCond .eq 13, 3) ∧ decode b_Model_breaks 86 = .ok (.aload_n 0, 1) ∧ decode b_Model_breaks 87 = .ok (.getfield 27, 3) ∧ decode b_Model_breaks 90 = .ok (.iload 6, 2) ∧ decode b_Model_breaks 92 = .ok (.baload, 1) ∧ decode b_Model_breaks 93 = .ok (.goto 4, 3) ∧ decode b_Model_breaks 96 = .ok (.iconst 0, 1) ∧ decode b_Model_breaks 97 = .ok (.invokevirtual 91, 3) ∧ decode b_Model_breaks 100 = .ok (.aload_n 0, 1) ∧ decode b_Model_breaks 101 = .ok (.iload 4, 2) ∧ decode b_Model_breaks 103 = .ok (.iload 8, 2) ∧ decode b_Model_breaks 105 = .ok (.ifCond .eq 13, 3) ∧ decode b_Model_breaks 108 = .ok (.aload_n 0, 1) ∧ decode b_Model_breaks 109 = .ok (.getfield 27, 3) ∧ decode b_Model_breaks 112 = .ok (.iload 6, 2) ∧ decode b_Model_breaks 114 = .ok (.baload, 1) ∧ decode b_Model_breaks 115 = .ok (.goto 4, 3) ∧ decode b_Model_breaks 118 = .ok (.iconst 0, 1) ∧ decode b_Model_breaks 119 = .ok (.invokevirtual 91, 3) ∧ decode b_Model_breaks 122 = .ok (.if_icmp .eq 7, 3) ∧ decode b_Model_breaks 125 = .ok (.iconst 1, 1) ∧ decode b_Model_breaks 126 = .ok (.goto 4, 3) ∧ decode b_Model_breaks 129 = .ok (.iconst 0, 1) ∧ decode b_Model_breaks 130 = .ok (.istore 5, 2) ∧ decode b_Model_breaks 132 = .ok (.iinc 6 1, 3) ∧ decode b_Model_breaks 135 = .ok (.goto (-126), 3) ∧ decode b_Model_breaks 138 = .ok (.iload 5, 2) ∧ decode b_Model_breaks 140 = .ok (.ireturn, 1) := ⟨d_Model_breaks_0, d_Model_breaks_1, d_Model_breaks_3, d_Model_breaks_5, d_Model_breaks_6, d_Model_breaks_7, d_Model_breaks_9, d_Model_breaks_11, d_Model_breaks_13, d_Model_breaks_14, d_Model_breaks_15, d_Model_breaks_16, d_Model_breaks_19, d_Model_breaks_20, d_Model_breaks_21, d_Model_breaks_22, d_Model_breaks_25, d_Model_breaks_26, d_Model_breaks_29, d_Model_breaks_31, d_Model_breaks_32, d_Model_breaks_34, d_Model_breaks_36, d_Model_breaks_38, d_Model_breaks_39, d_Model_breaks_40, d_Model_breaks_43, d_Model_breaks_45, d_Model_breaks_47, d_Model_breaks_50, d_Model_breaks_51, d_Model_breaks_54, d_Model_breaks_56, d_Model_breaks_57, d_Model_breaks_59, d_Model_breaks_62, d_Model_breaks_63, d_Model_breaks_66, d_Model_breaks_67, d_Model_breaks_69, d_Model_breaks_71, d_Model_breaks_74, d_Model_breaks_76, d_Model_breaks_79, d_Model_breaks_80, d_Model_breaks_81, d_Model_breaks_83, d_Model_breaks_86, d_Model_breaks_87, d_Model_breaks_90, d_Model_breaks_92, d_Model_breaks_93, d_Model_breaks_96, d_Model_breaks_97, d_Model_breaks_100, d_Model_breaks_101, d_Model_breaks_103, d_Model_breaks_105, d_Model_breaks_108, d_Model_breaks_109, d_Model_breaks_112, d_Model_breaks_114, d_Model_breaks_115, d_Model_breaks_118, d_Model_breaks_119, d_Model_breaks_122, d_Model_breaks_125, d_Model_breaks_126, d_Model_breaks_129, d_Model_breaks_130, d_Model_breaks_132, d_Model_breaks_135, d_Model_breaks_138, d_Model_breaks_140⟩
theorem v_Model_breaks : Cond.instanceMethod y_Model_breaks ∈ nm_Ts ∧ Cond.selects y_Model_breaks.cls y_Model_breaks y_Model_breaks ∈ nm_Ts ∧ Cond.initialized y_Model_breaks.cls ∈ nm_Ts ∧ Cond.code y_Model_breaks b_Model_breaks 9 (some .boolean) ∈ nm_Ts ∧ mz_cl1 y_Model_breaks 4 := ⟨nm_t5 70 rfl rfl, nm_s 37 rfl rfl, nm_t1 12 rfl rfl, nm_t5 71 rfl rfl, by decide +kernel⟩
def y_Model_faultOfCard : MethodName := ⟨"CardOfficeModel", "faultOfCard", "(III)I"⟩
abbrev b_Model_faultOfCard : ByteArray := prog_14_method_54_code
def r_Model_faultOfCard (c s : Nat) : Room := { frames := 4, cells := c, slots := s, locals := 100 }
theorem d_Model_faultOfCard_0 : decode b_Model_faultOfCard 0 = .ok (.aload_n 0, 1) := by decide +kernel
theorem d_Model_faultOfCard_1 : decode b_Model_faultOfCard 1 = .ok (.iload_n 1, 1) := by decide +kernel
theorem d_Model_faultOfCard_2 : decode b_Model_faultOfCard 2 = .ok (.invokevirtual 197, 3) := by decide +kernel
theorem d_Model_faultOfCard_5 : decode b_Model_faultOfCard 5 = .ok (.istore 4, 2) := by decide +kernel
theorem d_Model_faultOfCard_7 : decode b_Model_faultOfCard 7 = .ok (.aload_n 0, 1) := by decide +kernel
theorem d_Model_faultOfCard_8 : decode b_Model_faultOfCard 8 = .ok (.iload_n 1, 1) := by decide +kernel
theorem d_Model_faultOfCard_9 : decode b_Model_faultOfCard 9 = .ok (.iload_n 2, 1) := by decide +kernel
theorem d_Model_faultOfCard_10 : decode b_Model_faultOfCard 10 = .ok (.iload_n 3, 1) := by decide +kernel
theorem d_Model_faultOfCard_11 : decode b_Model_faultOfCard 11 = .ok (.invokevirtual 200, 3) := by decide +kernel
theorem d_Model_faultOfCard_14 : decode b_Model_faultOfCard 14 = .ok (.ifCond .ne 7, 3) := by decide +kernel
theorem d_Model_faultOfCard_17 : decode b_Model_faultOfCard 17 = .ok (.iconst 1, 1) := by decide +kernel
theorem d_Model_faultOfCard_18 : decode b_Model_faultOfCard 18 = .ok (.goto 4, 3) := by decide +kernel
theorem d_Model_faultOfCard_21 : decode b_Model_faultOfCard 21 = .ok (.iconst 0, 1) := by decide +kernel
theorem d_Model_faultOfCard_22 : decode b_Model_faultOfCard 22 = .ok (.istore 5, 2) := by decide +kernel
theorem d_Model_faultOfCard_24 : decode b_Model_faultOfCard 24 = .ok (.iload 4, 2) := by decide +kernel
theorem d_Model_faultOfCard_26 : decode b_Model_faultOfCard 26 = .ok (.ifCond .eq 7, 3) := by decide +kernel
theorem d_Model_faultOfCard_29 : decode b_Model_faultOfCard 29 = .ok (.iconst 1, 1) := by decide +kernel
theorem d_Model_faultOfCard_30 : decode b_Model_faultOfCard 30 = .ok (.goto 4, 3) := by decide +kernel
theorem d_Model_faultOfCard_33 : decode b_Model_faultOfCard 33 = .ok (.iconst 0, 1) := by decide +kernel
theorem d_Model_faultOfCard_34 : decode b_Model_faultOfCard 34 = .ok (.istore 6, 2) := by decide +kernel
theorem d_Model_faultOfCard_36 : decode b_Model_faultOfCard 36 = .ok (.iconst 0, 1) := by decide +kernel
theorem d_Model_faultOfCard_37 : decode b_Model_faultOfCard 37 = .ok (.istore 7, 2) := by decide +kernel
theorem d_Model_faultOfCard_39 : decode b_Model_faultOfCard 39 = .ok (.iload 7, 2) := by decide +kernel
theorem d_Model_faultOfCard_41 : decode b_Model_faultOfCard 41 = .ok (.iload_n 3, 1) := by decide +kernel
theorem d_Model_faultOfCard_42 : decode b_Model_faultOfCard 42 = .ok (.if_icmp .ge 51, 3) := by decide +kernel
theorem d_Model_faultOfCard_45 : decode b_Model_faultOfCard 45 = .ok (.iload 5, 2) := by decide +kernel
theorem d_Model_faultOfCard_47 : decode b_Model_faultOfCard 47 = .ok (.ifCond .ne 13, 3) := by decide +kernel
theorem d_Model_faultOfCard_50 : decode b_Model_faultOfCard 50 = .ok (.aload_n 0, 1) := by decide +kernel
theorem d_Model_faultOfCard_51 : decode b_Model_faultOfCard 51 = .ok (.iload_n 1, 1) := by decide +kernel
theorem d_Model_faultOfCard_52 : decode b_Model_faultOfCard 52 = .ok (.iload 7, 2) := by decide +kernel
theorem d_Model_faultOfCard_54 : decode b_Model_faultOfCard 54 = .ok (.invokevirtual 203, 3) := by decide +kernel
theorem d_Model_faultOfCard_57 : decode b_Model_faultOfCard 57 = .ok (.ifCond .eq 7, 3) := by decide +kernel
theorem d_Model_faultOfCard_60 : decode b_Model_faultOfCard 60 = .ok (.iconst 1, 1) := by decide +kernel
theorem d_Model_faultOfCard_61 : decode b_Model_faultOfCard 61 = .ok (.goto 4, 3) := by decide +kernel
theorem d_Model_faultOfCard_64 : decode b_Model_faultOfCard 64 = .ok (.iconst 0, 1) := by decide +kernel
theorem d_Model_faultOfCard_65 : decode b_Model_faultOfCard 65 = .ok (.istore 5, 2) := by decide +kernel
theorem d_Model_faultOfCard_67 : decode b_Model_faultOfCard 67 = .ok (.iload 6, 2) := by decide +kernel
theorem d_Model_faultOfCard_69 : decode b_Model_faultOfCard 69 = .ok (.aload_n 0, 1) := by decide +kernel
theorem d_Model_faultOfCard_70 : decode b_Model_faultOfCard 70 = .ok (.iload_n 1, 1) := by decide +kernel
theorem d_Model_faultOfCard_71 : decode b_Model_faultOfCard 71 = .ok (.iload 7, 2) := by decide +kernel
theorem d_Model_faultOfCard_73 : decode b_Model_faultOfCard 73 = .ok (.invokevirtual 191, 3) := by decide +kernel
theorem d_Model_faultOfCard_76 : decode b_Model_faultOfCard 76 = .ok (.ifCond .eq 7, 3) := by decide +kernel
theorem d_Model_faultOfCard_79 : decode b_Model_faultOfCard 79 = .ok (.iconst 1, 1) := by decide +kernel
theorem d_Model_faultOfCard_80 : decode b_Model_faultOfCard 80 = .ok (.goto 4, 3) := by decide +kernel
theorem d_Model_faultOfCard_83 : decode b_Model_faultOfCard 83 = .ok (.iconst 0, 1) := by decide +kernel
theorem d_Model_faultOfCard_84 : decode b_Model_faultOfCard 84 = .ok (.iadd, 1) := by decide +kernel
theorem d_Model_faultOfCard_85 : decode b_Model_faultOfCard 85 = .ok (.istore 6, 2) := by decide +kernel
theorem d_Model_faultOfCard_87 : decode b_Model_faultOfCard 87 = .ok (.iinc 7 1, 3) := by decide +kernel
theorem d_Model_faultOfCard_90 : decode b_Model_faultOfCard 90 = .ok (.goto (-51), 3) := by decide +kernel
theorem d_Model_faultOfCard_93 : decode b_Model_faultOfCard 93 = .ok (.iconst 0, 1) := by decide +kernel
theorem d_Model_faultOfCard_94 : decode b_Model_faultOfCard 94 = .ok (.istore 7, 2) := by decide +kernel
theorem d_Model_faultOfCard_96 : decode b_Model_faultOfCard 96 = .ok (.iload 7, 2) := by decide +kernel
theorem d_Model_faultOfCard_98 : decode b_Model_faultOfCard 98 = .ok (.bipush 24, 2) := by decide +kernel
theorem d_Model_faultOfCard_100 : decode b_Model_faultOfCard 100 = .ok (.if_icmp .ge 42, 3) := by decide +kernel
theorem d_Model_faultOfCard_103 : decode b_Model_faultOfCard 103 = .ok (.iload 5, 2) := by decide +kernel
theorem d_Model_faultOfCard_105 : decode b_Model_faultOfCard 105 = .ok (.ifCond .ne 24, 3) := by decide +kernel
theorem d_Model_faultOfCard_108 : decode b_Model_faultOfCard 108 = .ok (.iload 4, 2) := by decide +kernel
theorem d_Model_faultOfCard_110 : decode b_Model_faultOfCard 110 = .ok (.ifCond .eq 23, 3) := by decide +kernel
theorem d_Model_faultOfCard_113 : decode b_Model_faultOfCard 113 = .ok (.aload_n 0, 1) := by decide +kernel
theorem d_Model_faultOfCard_114 : decode b_Model_faultOfCard 114 = .ok (.iload_n 1, 1) := by decide +kernel
theorem d_Model_faultOfCard_115 : decode b_Model_faultOfCard 115 = .ok (.bipush 32, 2) := by decide +kernel
theorem d_Model_faultOfCard_117 : decode b_Model_faultOfCard 117 = .ok (.iload 7, 2) := by decide +kernel
theorem d_Model_faultOfCard_119 : decode b_Model_faultOfCard 119 = .ok (.iadd, 1) := by decide +kernel
theorem d_Model_faultOfCard_120 : decode b_Model_faultOfCard 120 = .ok (.iload_n 2, 1) := by decide +kernel
theorem d_Model_faultOfCard_121 : decode b_Model_faultOfCard 121 = .ok (.invokevirtual 151, 3) := by decide +kernel
theorem d_Model_faultOfCard_124 : decode b_Model_faultOfCard 124 = .ok (.bipush (-2), 2) := by decide +kernel
theorem d_Model_faultOfCard_126 : decode b_Model_faultOfCard 126 = .ok (.if_icmp .ne 7, 3) := by decide +kernel
theorem d_Model_faultOfCard_129 : decode b_Model_faultOfCard 129 = .ok (.iconst 1, 1) := by decide +kernel
theorem d_Model_faultOfCard_130 : decode b_Model_faultOfCard 130 = .ok (.goto 4, 3) := by decide +kernel
theorem d_Model_faultOfCard_133 : decode b_Model_faultOfCard 133 = .ok (.iconst 0, 1) := by decide +kernel
theorem d_Model_faultOfCard_134 : decode b_Model_faultOfCard 134 = .ok (.istore 5, 2) := by decide +kernel
theorem d_Model_faultOfCard_136 : decode b_Model_faultOfCard 136 = .ok (.iinc 7 1, 3) := by decide +kernel
theorem d_Model_faultOfCard_139 : decode b_Model_faultOfCard 139 = .ok (.goto (-43), 3) := by decide +kernel
theorem d_Model_faultOfCard_142 : decode b_Model_faultOfCard 142 = .ok (.iconst 0, 1) := by decide +kernel
theorem d_Model_faultOfCard_143 : decode b_Model_faultOfCard 143 = .ok (.istore 7, 2) := by decide +kernel
theorem d_Model_faultOfCard_145 : decode b_Model_faultOfCard 145 = .ok (.iconst 0, 1) := by decide +kernel
theorem d_Model_faultOfCard_146 : decode b_Model_faultOfCard 146 = .ok (.istore 8, 2) := by decide +kernel
theorem d_Model_faultOfCard_148 : decode b_Model_faultOfCard 148 = .ok (.iload 8, 2) := by decide +kernel
theorem d_Model_faultOfCard_150 : decode b_Model_faultOfCard 150 = .ok (.iconst 4, 1) := by decide +kernel
theorem d_Model_faultOfCard_151 : decode b_Model_faultOfCard 151 = .ok (.if_icmp .ge 33, 3) := by decide +kernel
theorem d_Model_faultOfCard_154 : decode b_Model_faultOfCard 154 = .ok (.iload 7, 2) := by decide +kernel
theorem d_Model_faultOfCard_156 : decode b_Model_faultOfCard 156 = .ok (.ifCond .ne 15, 3) := by decide +kernel
theorem d_Model_faultOfCard_159 : decode b_Model_faultOfCard 159 = .ok (.aload_n 0, 1) := by decide +kernel
theorem d_Model_faultOfCard_160 : decode b_Model_faultOfCard 160 = .ok (.getfield 42, 3) := by decide +kernel
theorem d_Model_faultOfCard_163 : decode b_Model_faultOfCard 163 = .ok (.iload 8, 2) := by decide +kernel
theorem d_Model_faultOfCard_165 : decode b_Model_faultOfCard 165 = .ok (.iaload, 1) := by decide +kernel
theorem d_Model_faultOfCard_166 : decode b_Model_faultOfCard 166 = .ok (.ldc 206, 2) := by decide +kernel
theorem d_Model_faultOfCard_168 : decode b_Model_faultOfCard 168 = .ok (.if_icmp .le 7, 3) := by decide +kernel
theorem d_Model_faultOfCard_171 : decode b_Model_faultOfCard 171 = .ok (.iconst 1, 1) := by decide +kernel
theorem d_Model_faultOfCard_172 : decode b_Model_faultOfCard 172 = .ok (.goto 4, 3) := by decide +kernel
theorem d_Model_faultOfCard_175 : decode b_Model_faultOfCard 175 = .ok (.iconst 0, 1) := by decide +kernel
theorem d_Model_faultOfCard_176 : decode b_Model_faultOfCard 176 = .ok (.istore 7, 2) := by decide +kernel
theorem d_Model_faultOfCard_178 : decode b_Model_faultOfCard 178 = .ok (.iinc 8 1, 3) := by decide +kernel
theorem d_Model_faultOfCard_181 : decode b_Model_faultOfCard 181 = .ok (.goto (-33), 3) := by decide +kernel
theorem d_Model_faultOfCard_184 : decode b_Model_faultOfCard 184 = .ok (.iload 5, 2) := by decide +kernel
theorem d_Model_faultOfCard_186 : decode b_Model_faultOfCard 186 = .ok (.ifCond .eq 7, 3) := by decide +kernel
theorem d_Model_faultOfCard_189 : decode b_Model_faultOfCard 189 = .ok (.iconst 2, 1) := by decide +kernel
theorem d_Model_faultOfCard_190 : decode b_Model_faultOfCard 190 = .ok (.goto 29, 3) := by decide +kernel
theorem d_Model_faultOfCard_193 : decode b_Model_faultOfCard 193 = .ok (.iload 7, 2) := by decide +kernel
theorem d_Model_faultOfCard_195 : decode b_Model_faultOfCard 195 = .ok (.ifCond .eq 7, 3) := by decide +kernel
theorem d_Model_faultOfCard_198 : decode b_Model_faultOfCard 198 = .ok (.iconst 3, 1) := by decide +kernel
theorem d_Model_faultOfCard_199 : decode b_Model_faultOfCard 199 = .ok (.goto 20, 3) := by decide +kernel
theorem d_Model_faultOfCard_202 : decode b_Model_faultOfCard 202 = .ok (.aload_n 0, 1) := by decide +kernel
theorem d_Model_faultOfCard_203 : decode b_Model_faultOfCard 203 = .ok (.getfield 188, 3) := by decide +kernel
theorem d_Model_faultOfCard_206 : decode b_Model_faultOfCard 206 = .ok (.iload 6, 2) := by decide +kernel
theorem d_Model_faultOfCard_208 : decode b_Model_faultOfCard 208 = .ok (.iadd, 1) := by decide +kernel
theorem d_Model_faultOfCard_209 : decode b_Model_faultOfCard 209 = .ok (.bipush 100, 2) := by decide +kernel
theorem d_Model_faultOfCard_211 : decode b_Model_faultOfCard 211 = .ok (.if_icmp .le 7, 3) := by decide +kernel
theorem d_Model_faultOfCard_214 : decode b_Model_faultOfCard 214 = .ok (.iconst 4, 1) := by decide +kernel
theorem d_Model_faultOfCard_215 : decode b_Model_faultOfCard 215 = .ok (.goto 4, 3) := by decide +kernel
theorem d_Model_faultOfCard_218 : decode b_Model_faultOfCard 218 = .ok (.iconst 0, 1) := by decide +kernel
theorem d_Model_faultOfCard_219 : decode b_Model_faultOfCard 219 = .ok (.ireturn, 1) := by decide +kernel
theorem d_Model_faultOfCard : decode b_Model_faultOfCard 0 = .ok (.aload_n 0, 1) ∧ decode b_Model_faultOfCard 1 = .ok (.iload_n 1, 1) ∧ decode b_Model_faultOfCard 2 = .ok (.invokevirtual 197, 3) ∧ decode b_Model_faultOfCard 5 = .ok (.istore 4, 2) ∧ decode b_Model_faultOfCard 7 = .ok (.aload_n 0, 1) ∧ decode b_Model_faultOfCard 8 = .ok (.iload_n 1, 1) ∧ decode b_Model_faultOfCard 9 = .ok (.iload_n 2, 1) ∧ decode b_Model_faultOfCard 10 = .ok (.iload_n 3, 1) ∧ decode b_Model_faultOfCard 11 = .ok (.invokevirtual 200, 3) ∧ decode b_Model_faultOfCard 14 = .ok (.ifCond .ne 7, 3) ∧ decode b_Model_faultOfCard 17 = .ok (.iconst 1, 1) ∧ decode b_Model_faultOfCard 18 = .ok (.goto 4, 3) ∧ decode b_Model_faultOfCard 21 = .ok (.iconst 0, 1) ∧ decode b_Model_faultOfCard 22 = .ok (.istore 5, 2) ∧ decode b_Model_faultOfCard 24 = .ok (.iload 4, 2) ∧ decode b_Model_faultOfCard 26 = .ok (.ifCond .eq 7, 3) ∧ decode b_Model_faultOfCard 29 = .ok (.iconst 1, 1) ∧ decode b_Model_faultOfCard 30 = .ok (.goto 4, 3) ∧ decode b_Model_faultOfCard 33 = .ok (.iconst 0, 1) ∧ decode b_Model_faultOfCard 34 = .ok (.istore 6, 2) ∧ decode b_Model_faultOfCard 36 = .ok (.iconst 0, 1) ∧ decode b_Model_faultOfCard 37 = .ok (.istore 7, 2) ∧ decode b_Model_faultOfCard 39 = .ok (.iload 7, 2) ∧ decode b_Model_faultOfCard 41 = .ok (.iload_n 3, 1) ∧ decode b_Model_faultOfCard 42 = .ok (.if_icmp .ge 51, 3) ∧ decode b_Model_faultOfCard 45 = .ok (.iload 5, 2) ∧ decode b_Model_faultOfCard 47 = .ok (.ifCond .ne 13, 3) ∧ decode b_Model_faultOfCard 50 = .ok (.aload_n 0, 1) ∧ decode b_Model_faultOfCard 51 = .ok (.iload_n 1, 1) ∧ decode b_Model_faultOfCard 52 = .ok (.iload 7, 2) ∧ decode b_Model_faultOfCard 54 = .ok (.invokevirtual 203, 3) ∧ decode b_Model_faultOfCard 57 = .ok (.ifCond .eq 7, 3) ∧ decode b_Model_faultOfCard 60 = .ok (.iconst 1, 1) ∧ decode b_Model_faultOfCard 61 = .ok (.goto 4, 3) ∧ decode b_Model_faultOfCard 64 = .ok (.iconst 0, 1) ∧ decode b_Model_faultOfCard 65 = .ok (.istore 5, 2) ∧ decode b_Model_faultOfCard 67 = .ok (.iload 6, 2) ∧ decode b_Model_faultOfCard 69 = .ok (.aload_n 0, 1) ∧ decode b_Model_faultOfCard 70 = .ok (.iload_n 1, 1) ∧ decode b_Model_faultOfCard 71 = .ok (.iload 7, 2) ∧ decode b_Model_faultOfCard 73 = .ok (.invokevirtual 191, 3) ∧ decode b_Model_faultOfCard 76 = .ok (.ifCond .eq 7, 3) ∧ decode b_Model_faultOfCard 79 = .ok (.iconst 1, 1) ∧ decode b_Model_faultOfCard 80 = .ok (.goto 4, 3) ∧ decode b_Model_faultOfCard 83 = .ok (.iconst 0, 1) ∧ decode b_Model_faultOfCard 84 = .ok (.iadd, 1) ∧ decode b_Model_faultOfCard 85 = .ok (.istore 6, 2) ∧ decode b_Model_faultOfCard 87 = .ok (.iinc 7 1, 3) ∧ decode b_Model_faultOfCard 90 = .ok (.goto (-51), 3) ∧ decode b_Model_faultOfCard 93 = .ok (.iconst 0, 1) ∧ decode b_Model_faultOfCard 94 = .ok (.istore 7, 2) ∧ decode b_Model_faultOfCard 96 = .ok (.iload 7, 2) ∧ decode b_Model_faultOfCard 98 = .ok (.bipush 24, 2) ∧ decode b_Model_faultOfCard 100 = .ok (.if_icmp .ge 42, 3) ∧ decode b_Model_faultOfCard 103 = .ok (.iload 5, 2) ∧ decode b_Model_faultOfCard 105 = .ok (.ifCond .ne 24, 3) ∧ decode b_Model_faultOfCard 108 = .ok (.iload 4, 2) ∧ decode b_Model_faultOfCard 110 = .ok (.ifCond .eq 23, 3) ∧ decode b_Model_faultOfCard 113 = .ok (.aload_n 0, 1) ∧ decode b_Model_faultOfCard 114 = .ok (.iload_n 1, 1) ∧ decode b_Model_faultOfCard 115 = .ok (.bipush 32, 2) ∧ decode b_Model_faultOfCard 117 = .ok (.iload 7, 2) ∧ decode b_Model_faultOfCard 119 = .ok (.iadd, 1) ∧ decode b_Model_faultOfCard 120 = .ok (.iload_n 2, 1) ∧ decode b_Model_faultOfCard 121 = .ok (.invokevirtual 151, 3) ∧ decode b_Model_faultOfCard 124 = .ok (.bipush (-2), 2) ∧ decode b_Model_faultOfCard 126 = .ok (.if_icmp .ne 7, 3) ∧ decode b_Model_faultOfCard 129 = .ok (.iconst 1, 1) ∧ decode b_Model_faultOfCard 130 = .ok (.goto 4, 3) ∧ decode b_Model_faultOfCard 133 = .ok (.iconst 0, 1) ∧ decode b_Model_faultOfCard 134 = .ok (.istore 5, 2) ∧ decode b_Model_faultOfCard 136 = .ok (.iinc 7 1, 3) ∧ decode b_Model_faultOfCard 139 = .ok (.goto (-43), 3) ∧ decode b_Model_faultOfCard 142 = .ok (.iconst 0, 1) ∧ decode b_Model_faultOfCard 143 = .ok (.istore 7, 2) ∧ decode b_Model_faultOfCard 145 = .ok (.iconst 0, 1) ∧ decode b_Model_faultOfCard 146 = .ok (.istore 8, 2) ∧ decode b_Model_faultOfCard 148 = .ok (.iload 8, 2) ∧ decode b_Model_faultOfCard 150 = .ok (.iconst 4, 1) ∧ decode b_Model_faultOfCard 151 = .ok (.if_icmp .ge 33, 3) ∧ decode b_Model_faultOfCard 154 = .ok (.iload 7, 2) ∧ decode b_Model_faultOfCard 156 = .ok (.ifCond .ne 15, 3) ∧ decode b_Model_faultOfCard 159 = .ok (.aload_n 0, 1) ∧ decode b_Model_faultOfCard 160 = .ok (.getfield 42, 3) ∧ decode b_Model_faultOfCard 163 = .ok (.iload 8, 2) ∧ decode b_Model_faultOfCard 165 = .ok (.iaload, 1) ∧ decode b_Model_faultOfCard 166 = .ok (.ldc 206, 2) ∧ decode b_Model_faultOfCard 168 = .ok (.if_icmp .le 7, 3) ∧ decode b_Model_faultOfCard 171 = .ok (.iconst 1, 1) ∧ decode b_Model_faultOfCard 172 = .ok (.goto 4, 3) ∧ decode b_Model_faultOfCard 175 = .ok (.iconst 0, 1) ∧ decode b_Model_faultOfCard 176 = .ok (.istore 7, 2) ∧ decode b_Model_faultOfCard 178 = .ok (.iinc 8 1, 3) ∧ decode b_Model_faultOfCard 181 = .ok (.goto (-33), 3) ∧ decode b_Model_faultOfCard 184 = .ok (.iload 5, 2) ∧ decode b_Model_faultOfCard 186 = .ok (.ifCond .eq 7, 3) ∧ decode b_Model_faultOfCard 189 = .ok (.iconst 2, 1) ∧ decode b_Model_faultOfCard 190 = .ok (.goto 29, 3) ∧ decode b_Model_faultOfCard 193 = .ok (.iload 7, 2) ∧ decode b_Model_faultOfCard 195 = .ok (.ifCond .eq 7, 3) ∧ decode b_Model_faultOfCard 198 = .ok (.iconst 3, 1) ∧ decode b_Model_faultOfCard 199 = .ok (.goto 20, 3) ∧ decode b_Model_faultOfCard 202 = .ok (.aload_n 0, 1) ∧ decode b_Model_faultOfCard 203 = .ok (.getfield 188, 3) ∧ decode b_Model_faultOfCard 206 = .ok (.iload 6, 2) ∧ decode b_Model_faultOfCard 208 = .ok (.iadd, 1) ∧ decode b_Model_faultOfCard 209 = .ok (.bipush 100, 2) ∧ decode b_Model_faultOfCard 211 = .ok (.if_icmp .le 7, 3) ∧ decode b_Model_faultOfCard 214 = .ok (.iconst 4, 1) ∧ decode b_Model_faultOfCard 215 = .ok (.goto 4, 3) ∧ decode b_Model_faultOfCard 218 = .ok (.iconst 0, 1) ∧ decode b_Model_faultOfCard 219 = .ok (.ireturn, 1) := ⟨d_Model_faultOfCard_0, d_Model_faultOfCard_1, d_Model_faultOfCard_2, d_Model_faultOfCard_5, d_Model_faultOfCard_7, d_Model_faultOfCard_8, d_Model_faultOfCard_9, d_Model_faultOfCard_10, d_Model_faultOfCard_11, d_Model_faultOfCard_14, d_Model_faultOfCard_17, d_Model_faultOfCard_18, d_Model_faultOfCard_21, d_Model_faultOfCard_22, d_Model_faultOfCard_24, d_Model_faultOfCard_26, d_Model_faultOfCard_29, d_Model_faultOfCard_30, d_Model_faultOfCard_33, d_Model_faultOfCard_34, d_Model_faultOfCard_36, d_Model_faultOfCard_37, d_Model_faultOfCard_39, d_Model_faultOfCard_41, d_Model_faultOfCard_42, d_Model_faultOfCard_45, d_Model_faultOfCard_47, d_Model_faultOfCard_50, d_Model_faultOfCard_51, d_Model_faultOfCard_52, d_Model_faultOfCard_54, d_Model_faultOfCard_57, d_Model_faultOfCard_60, d_Model_faultOfCard_61, d_Model_faultOfCard_64, d_Model_faultOfCard_65, d_Model_faultOfCard_67, d_Model_faultOfCard_69, d_Model_faultOfCard_70, d_Model_faultOfCard_71, d_Model_faultOfCard_73, d_Model_faultOfCard_76, d_Model_faultOfCard_79, d_Model_faultOfCard_80, d_Model_faultOfCard_83, d_Model_faultOfCard_84, d_Model_faultOfCard_85, d_Model_faultOfCard_87, d_Model_faultOfCard_90, d_Model_faultOfCard_93, d_Model_faultOfCard_94, d_Model_faultOfCard_96, d_Model_faultOfCard_98, d_Model_faultOfCard_100, d_Model_faultOfCard_103, d_Model_faultOfCard_105, d_Model_faultOfCard_108, d_Model_faultOfCard_110, d_Model_faultOfCard_113, d_Model_faultOfCard_114, d_Model_faultOfCard_115, d_Model_faultOfCard_117, d_Model_faultOfCard_119, d_Model_faultOfCard_120, d_Model_faultOfCard_121, d_Model_faultOfCard_124, d_Model_faultOfCard_126, d_Model_faultOfCard_129, d_Model_faultOfCard_130, d_Model_faultOfCard_133, d_Model_faultOfCard_134, d_Model_faultOfCard_136, d_Model_faultOfCard_139, d_Model_faultOfCard_142, d_Model_faultOfCard_143, d_Model_faultOfCard_145, d_Model_faultOfCard_146, d_Model_faultOfCard_148, d_Model_faultOfCard_150, d_Model_faultOfCard_151, d_Model_faultOfCard_154, d_Model_faultOfCard_156, d_Model_faultOfCard_159, d_Model_faultOfCard_160, d_Model_faultOfCard_163, d_Model_faultOfCard_165, d_Model_faultOfCard_166, d_Model_faultOfCard_168, d_Model_faultOfCard_171, d_Model_faultOfCard_172, d_Model_faultOfCard_175, d_Model_faultOfCard_176, d_Model_faultOfCard_178, d_Model_faultOfCard_181, d_Model_faultOfCard_184, d_Model_faultOfCard_186, d_Model_faultOfCard_189, d_Model_faultOfCard_190, d_Model_faultOfCard_193, d_Model_faultOfCard_195, d_Model_faultOfCard_198, d_Model_faultOfCard_199, d_Model_faultOfCard_202, d_Model_faultOfCard_203, d_Model_faultOfCard_206, d_Model_faultOfCard_208, d_Model_faultOfCard_209, d_Model_faultOfCard_211, d_Model_faultOfCard_214, d_Model_faultOfCard_215, d_Model_faultOfCard_218, d_Model_faultOfCard_219⟩
theorem v_Model_faultOfCard : Cond.instanceMethod y_Model_faultOfCard ∈ nm_Ts ∧ Cond.selects y_Model_faultOfCard.cls y_Model_faultOfCard y_Model_faultOfCard ∈ nm_Ts ∧ Cond.initialized y_Model_faultOfCard.cls ∈ nm_Ts ∧ Cond.code y_Model_faultOfCard b_Model_faultOfCard 9 (some .int) ∈ nm_Ts ∧ mz_cl1 y_Model_faultOfCard 3 := ⟨nm_t5 74 rfl rfl, nm_s 38 rfl rfl, nm_t1 12 rfl rfl, nm_t5 75 rfl rfl, by decide +kernel⟩
def y_Model_isListed : MethodName := ⟨"CardOfficeModel", "isListed", "(I)Z"⟩
abbrev b_Model_isListed : ByteArray := prog_14_method_49_code
def r_Model_isListed (c s : Nat) : Room := { frames := 0, cells := c, slots := s, locals := 0 }
theorem d_Model_isListed_0 : decode b_Model_isListed 0 = .ok (.iconst 0, 1) := by decide +kernel
theorem d_Model_isListed_1 : decode b_Model_isListed 1 = .ok (.istore_n 2, 1) := by decide +kernel
theorem d_Model_isListed_2 : decode b_Model_isListed 2 = .ok (.bipush 40, 2) := by decide +kernel
theorem d_Model_isListed_4 : decode b_Model_isListed 4 = .ok (.iload_n 1, 1) := by decide +kernel
theorem d_Model_isListed_5 : decode b_Model_isListed 5 = .ok (.imul, 1) := by decide +kernel
theorem d_Model_isListed_6 : decode b_Model_isListed 6 = .ok (.istore_n 3, 1) := by decide +kernel
theorem d_Model_isListed_7 : decode b_Model_isListed 7 = .ok (.iload_n 3, 1) := by decide +kernel
theorem d_Model_isListed_8 : decode b_Model_isListed 8 = .ok (.bipush 40, 2) := by decide +kernel
theorem d_Model_isListed_10 : decode b_Model_isListed 10 = .ok (.iload_n 1, 1) := by decide +kernel
theorem d_Model_isListed_11 : decode b_Model_isListed 11 = .ok (.imul, 1) := by decide +kernel
theorem d_Model_isListed_12 : decode b_Model_isListed 12 = .ok (.aload_n 0, 1) := by decide +kernel
theorem d_Model_isListed_13 : decode b_Model_isListed 13 = .ok (.getfield 33, 3) := by decide +kernel
theorem d_Model_isListed_16 : decode b_Model_isListed 16 = .ok (.iload_n 1, 1) := by decide +kernel
theorem d_Model_isListed_17 : decode b_Model_isListed 17 = .ok (.iaload, 1) := by decide +kernel
theorem d_Model_isListed_18 : decode b_Model_isListed 18 = .ok (.iadd, 1) := by decide +kernel
theorem d_Model_isListed_19 : decode b_Model_isListed 19 = .ok (.if_icmp .ge 30, 3) := by decide +kernel
theorem d_Model_isListed_22 : decode b_Model_isListed 22 = .ok (.iload_n 2, 1) := by decide +kernel
theorem d_Model_isListed_23 : decode b_Model_isListed 23 = .ok (.ifCond .ne 14, 3) := by decide +kernel
theorem d_Model_isListed_26 : decode b_Model_isListed 26 = .ok (.aload_n 0, 1) := by decide +kernel
theorem d_Model_isListed_27 : decode b_Model_isListed 27 = .ok (.getfield 30, 3) := by decide +kernel
theorem d_Model_isListed_30 : decode b_Model_isListed 30 = .ok (.iload_n 3, 1) := by decide +kernel
theorem d_Model_isListed_31 : decode b_Model_isListed 31 = .ok (.baload, 1) := by decide +kernel
theorem d_Model_isListed_32 : decode b_Model_isListed 32 = .ok (.bipush 99, 2) := by decide +kernel
theorem d_Model_isListed_34 : decode b_Model_isListed 34 = .ok (.if_icmp .ne 7, 3) := by decide +kernel
theorem d_Model_isListed_37 : decode b_Model_isListed 37 = .ok (.iconst 1, 1) := by decide +kernel
theorem d_Model_isListed_38 : decode b_Model_isListed 38 = .ok (.goto 4, 3) := by decide +kernel
theorem d_Model_isListed_41 : decode b_Model_isListed 41 = .ok (.iconst 0, 1) := by decide +kernel
theorem d_Model_isListed_42 : decode b_Model_isListed 42 = .ok (.istore_n 2, 1) := by decide +kernel
theorem d_Model_isListed_43 : decode b_Model_isListed 43 = .ok (.iinc 3 1, 3) := by decide +kernel
theorem d_Model_isListed_46 : decode b_Model_isListed 46 = .ok (.goto (-39), 3) := by decide +kernel
theorem d_Model_isListed_49 : decode b_Model_isListed 49 = .ok (.iload_n 2, 1) := by decide +kernel
theorem d_Model_isListed_50 : decode b_Model_isListed 50 = .ok (.ireturn, 1) := by decide +kernel
theorem d_Model_isListed : decode b_Model_isListed 0 = .ok (.iconst 0, 1) ∧ decode b_Model_isListed 1 = .ok (.istore_n 2, 1) ∧ decode b_Model_isListed 2 = .ok (.bipush 40, 2) ∧ decode b_Model_isListed 4 = .ok (.iload_n 1, 1) ∧ decode b_Model_isListed 5 = .ok (.imul, 1) ∧ decode b_Model_isListed 6 = .ok (.istore_n 3, 1) ∧ decode b_Model_isListed 7 = .ok (.iload_n 3, 1) ∧ decode b_Model_isListed 8 = .ok (.bipush 40, 2) ∧ decode b_Model_isListed 10 = .ok (.iload_n 1, 1) ∧ decode b_Model_isListed 11 = .ok (.imul, 1) ∧ decode b_Model_isListed 12 = .ok (.aload_n 0, 1) ∧ decode b_Model_isListed 13 = .ok (.getfield 33, 3) ∧ decode b_Model_isListed 16 = .ok (.iload_n 1, 1) ∧ decode b_Model_isListed 17 = .ok (.iaload, 1) ∧ decode b_Model_isListed 18 = .ok (.iadd, 1) ∧ decode b_Model_isListed 19 = .ok (.if_icmp .ge 30, 3) ∧ decode b_Model_isListed 22 = .ok (.iload_n 2, 1) ∧ decode b_Model_isListed 23 = .ok (.ifCond .ne 14, 3) ∧ decode b_Model_isListed 26 = .ok (.aload_n 0, 1) ∧ decode b_Model_isListed 27 = .ok (.getfield 30, 3) ∧ decode b_Model_isListed 30 = .ok (.iload_n 3, 1) ∧ decode b_Model_isListed 31 = .ok (.baload, 1) ∧ decode b_Model_isListed 32 = .ok (.bipush 99, 2) ∧ decode b_Model_isListed 34 = .ok (.if_icmp .ne 7, 3) ∧ decode b_Model_isListed 37 = .ok (.iconst 1, 1) ∧ decode b_Model_isListed 38 = .ok (.goto 4, 3) ∧ decode b_Model_isListed 41 = .ok (.iconst 0, 1) ∧ decode b_Model_isListed 42 = .ok (.istore_n 2, 1) ∧ decode b_Model_isListed 43 = .ok (.iinc 3 1, 3) ∧ decode b_Model_isListed 46 = .ok (.goto (-39), 3) ∧ decode b_Model_isListed 49 = .ok (.iload_n 2, 1) ∧ decode b_Model_isListed 50 = .ok (.ireturn, 1) := ⟨d_Model_isListed_0, d_Model_isListed_1, d_Model_isListed_2, d_Model_isListed_4, d_Model_isListed_5, d_Model_isListed_6, d_Model_isListed_7, d_Model_isListed_8, d_Model_isListed_10, d_Model_isListed_11, d_Model_isListed_12, d_Model_isListed_13, d_Model_isListed_16, d_Model_isListed_17, d_Model_isListed_18, d_Model_isListed_19, d_Model_isListed_22, d_Model_isListed_23, d_Model_isListed_26, d_Model_isListed_27, d_Model_isListed_30, d_Model_isListed_31, d_Model_isListed_32, d_Model_isListed_34, d_Model_isListed_37, d_Model_isListed_38, d_Model_isListed_41, d_Model_isListed_42, d_Model_isListed_43, d_Model_isListed_46, d_Model_isListed_49, d_Model_isListed_50⟩
theorem v_Model_isListed : Cond.instanceMethod y_Model_isListed ∈ nm_Ts ∧ Cond.selects y_Model_isListed.cls y_Model_isListed y_Model_isListed ∈ nm_Ts ∧ Cond.initialized y_Model_isListed.cls ∈ nm_Ts ∧ Cond.code y_Model_isListed b_Model_isListed 4 (some .boolean) ∈ nm_Ts ∧ mz_cl1 y_Model_isListed 1 := ⟨nm_t5 78 rfl rfl, nm_s 39 rfl rfl, nm_t1 12 rfl rfl, nm_t5 79 rfl rfl, by decide +kernel⟩
def y_Model_counts : MethodName := ⟨"CardOfficeModel", "counts", "(III)Z"⟩
abbrev b_Model_counts : ByteArray := prog_14_method_53_code
def r_Model_counts (c s : Nat) : Room := { frames := 3, cells := c, slots := s, locals := 71 }
theorem d_Model_counts_0 : decode b_Model_counts 0 = .ok (.iconst 1, 1) := by decide +kernel
theorem d_Model_counts_1 : decode b_Model_counts 1 = .ok (.istore 4, 2) := by decide +kernel
theorem d_Model_counts_3 : decode b_Model_counts 3 = .ok (.iconst 0, 1) := by decide +kernel
theorem d_Model_counts_4 : decode b_Model_counts 4 = .ok (.istore 5, 2) := by decide +kernel
theorem d_Model_counts_6 : decode b_Model_counts 6 = .ok (.iload 5, 2) := by decide +kernel
theorem d_Model_counts_8 : decode b_Model_counts 8 = .ok (.iconst 4, 1) := by decide +kernel
theorem d_Model_counts_9 : decode b_Model_counts 9 = .ok (.if_icmp .ge 146, 3) := by decide +kernel
theorem d_Model_counts_12 : decode b_Model_counts 12 = .ok (.aload_n 0, 1) := by decide +kernel
theorem d_Model_counts_13 : decode b_Model_counts 13 = .ok (.getfield 42, 3) := by decide +kernel
theorem d_Model_counts_16 : decode b_Model_counts 16 = .ok (.iload 5, 2) := by decide +kernel
theorem d_Model_counts_18 : decode b_Model_counts 18 = .ok (.aload_n 0, 1) := by decide +kernel
theorem d_Model_counts_19 : decode b_Model_counts 19 = .ok (.getfield 36, 3) := by decide +kernel
theorem d_Model_counts_22 : decode b_Model_counts 22 = .ok (.iconst 4, 1) := by decide +kernel
theorem d_Model_counts_23 : decode b_Model_counts 23 = .ok (.iload_n 1, 1) := by decide +kernel
theorem d_Model_counts_24 : decode b_Model_counts 24 = .ok (.imul, 1) := by decide +kernel
theorem d_Model_counts_25 : decode b_Model_counts 25 = .ok (.iload 5, 2) := by decide +kernel
theorem d_Model_counts_27 : decode b_Model_counts 27 = .ok (.iadd, 1) := by decide +kernel
theorem d_Model_counts_28 : decode b_Model_counts 28 = .ok (.iaload, 1) := by decide +kernel
theorem d_Model_counts_29 : decode b_Model_counts 29 = .ok (.iload_n 3, 1) := by decide +kernel
theorem d_Model_counts_30 : decode b_Model_counts 30 = .ok (.if_icmp .ge 7, 3) := by decide +kernel
theorem d_Model_counts_33 : decode b_Model_counts 33 = .ok (.iconst 0, 1) := by decide +kernel
theorem d_Model_counts_34 : decode b_Model_counts 34 = .ok (.goto 10, 3) := by decide +kernel
theorem d_Model_counts_37 : decode b_Model_counts 37 = .ok (.aload_n 0, 1) := by decide +kernel
theorem d_Model_counts_38 : decode b_Model_counts 38 = .ok (.getfield 39, 3) := by decide +kernel
theorem d_Model_counts_41 : decode b_Model_counts 41 = .ok (.iload 5, 2) := by decide +kernel
theorem d_Model_counts_43 : decode b_Model_counts 43 = .ok (.iaload, 1) := by decide +kernel
theorem d_Model_counts_44 : decode b_Model_counts 44 = .ok (.iastore, 1) := by decide +kernel
theorem d_Model_counts_45 : decode b_Model_counts 45 = .ok (.iconst 1, 1) := by decide +kernel
theorem d_Model_counts_46 : decode b_Model_counts 46 = .ok (.istore 6, 2) := by decide +kernel
theorem d_Model_counts_48 : decode b_Model_counts 48 = .ok (.iconst 0, 1) := by decide +kernel
theorem d_Model_counts_49 : decode b_Model_counts 49 = .ok (.istore 7, 2) := by decide +kernel
theorem d_Model_counts_51 : decode b_Model_counts 51 = .ok (.iload 7, 2) := by decide +kernel
theorem d_Model_counts_53 : decode b_Model_counts 53 = .ok (.bipush 6, 2) := by decide +kernel
theorem d_Model_counts_55 : decode b_Model_counts 55 = .ok (.if_icmp .ge 94, 3) := by decide +kernel
theorem d_Model_counts_58 : decode b_Model_counts 58 = .ok (.aload_n 0, 1) := by decide +kernel
theorem d_Model_counts_59 : decode b_Model_counts 59 = .ok (.iload_n 1, 1) := by decide +kernel
theorem d_Model_counts_60 : decode b_Model_counts 60 = .ok (.bipush 64, 2) := by decide +kernel
theorem d_Model_counts_62 : decode b_Model_counts 62 = .ok (.bipush 6, 2) := by decide +kernel
theorem d_Model_counts_64 : decode b_Model_counts 64 = .ok (.iload 5, 2) := by decide +kernel
theorem d_Model_counts_66 : decode b_Model_counts 66 = .ok (.imul, 1) := by decide +kernel
theorem d_Model_counts_67 : decode b_Model_counts 67 = .ok (.iadd, 1) := by decide +kernel
theorem d_Model_counts_68 : decode b_Model_counts 68 = .ok (.iload 7, 2) := by decide +kernel
theorem d_Model_counts_70 : decode b_Model_counts 70 = .ok (.iadd, 1) := by decide +kernel
theorem d_Model_counts_71 : decode b_Model_counts 71 = .ok (.iload_n 2, 1) := by decide +kernel
theorem d_Model_counts_72 : decode b_Model_counts 72 = .ok (.invokevirtual 151, 3) := by decide +kernel
theorem d_Model_counts_75 : decode b_Model_counts 75 = .ok (.istore 8, 2) := by decide +kernel
theorem d_Model_counts_77 : decode b_Model_counts 77 = .ok (.iload 4, 2) := by decide +kernel
theorem d_Model_counts_79 : decode b_Model_counts 79 = .ok (.ifCond .eq 14, 3) := by decide +kernel
theorem d_Model_counts_82 : decode b_Model_counts 82 = .ok (.iload 8, 2) := by decide +kernel
theorem d_Model_counts_84 : decode b_Model_counts 84 = .ok (.bipush (-2), 2) := by decide +kernel
theorem d_Model_counts_86 : decode b_Model_counts 86 = .ok (.if_icmp .eq 7, 3) := by decide +kernel
theorem d_Model_counts_89 : decode b_Model_counts 89 = .ok (.iconst 1, 1) := by decide +kernel
theorem d_Model_counts_90 : decode b_Model_counts 90 = .ok (.goto 4, 3) := by decide +kernel
theorem d_Model_counts_93 : decode b_Model_counts 93 = .ok (.iconst 0, 1) := by decide +kernel
theorem d_Model_counts_94 : decode b_Model_counts 94 = .ok (.istore 4, 2) := by decide +kernel
theorem d_Model_counts_96 : decode b_Model_counts 96 = .ok (.iload 8, 2) := by decide +kernel
theorem d_Model_counts_98 : decode b_Model_counts 98 = .ok (.ifCond .ge 7, 3) := by decide +kernel
theorem d_Model_counts_101 : decode b_Model_counts 101 = .ok (.iconst 0, 1) := by decide +kernel
theorem d_Model_counts_102 : decode b_Model_counts 102 = .ok (.goto 8, 3) := by decide +kernel
theorem d_Model_counts_105 : decode b_Model_counts 105 = .ok (.iload 8, 2) := by decide +kernel
theorem d_Model_counts_107 : decode b_Model_counts 107 = .ok (.invokestatic 59, 3) := by decide +kernel
theorem d_Model_counts_110 : decode b_Model_counts 110 = .ok (.istore 9, 2) := by decide +kernel
theorem d_Model_counts_112 : decode b_Model_counts 112 = .ok (.aload_n 0, 1) := by decide +kernel
theorem d_Model_counts_113 : decode b_Model_counts 113 = .ok (.getfield 42, 3) := by decide +kernel
theorem d_Model_counts_116 : decode b_Model_counts 116 = .ok (.iload 5, 2) := by decide +kernel
theorem d_Model_counts_118 : decode b_Model_counts 118 = .ok (.dup2, 1) := by decide +kernel
theorem d_Model_counts_119 : decode b_Model_counts 119 = .ok (.iaload, 1) := by decide +kernel
theorem d_Model_counts_120 : decode b_Model_counts 120 = .ok (.iload 9, 2) := by decide +kernel
theorem d_Model_counts_122 : decode b_Model_counts 122 = .ok (.ifCond .le 11, 3) := by decide +kernel
theorem d_Model_counts_125 : decode b_Model_counts 125 = .ok (.iload 9, 2) := by decide +kernel
theorem d_Model_counts_127 : decode b_Model_counts 127 = .ok (.iload 6, 2) := by decide +kernel
theorem d_Model_counts_129 : decode b_Model_counts 129 = .ok (.imul, 1) := by decide +kernel
theorem d_Model_counts_130 : decode b_Model_counts 130 = .ok (.goto 4, 3) := by decide +kernel
theorem d_Model_counts_133 : decode b_Model_counts 133 = .ok (.iconst 0, 1) := by decide +kernel
theorem d_Model_counts_134 : decode b_Model_counts 134 = .ok (.iadd, 1) := by decide +kernel
theorem d_Model_counts_135 : decode b_Model_counts 135 = .ok (.iastore, 1) := by decide +kernel
theorem d_Model_counts_136 : decode b_Model_counts 136 = .ok (.bipush 10, 2) := by decide +kernel
theorem d_Model_counts_138 : decode b_Model_counts 138 = .ok (.iload 6, 2) := by decide +kernel
theorem d_Model_counts_140 : decode b_Model_counts 140 = .ok (.imul, 1) := by decide +kernel
theorem d_Model_counts_141 : decode b_Model_counts 141 = .ok (.istore 6, 2) := by decide +kernel
theorem d_Model_counts_143 : decode b_Model_counts 143 = .ok (.iinc 7 1, 3) := by decide +kernel
theorem d_Model_counts_146 : decode b_Model_counts 146 = .ok (.goto (-95), 3) := by decide +kernel
theorem d_Model_counts_149 : decode b_Model_counts 149 = .ok (.iinc 5 1, 3) := by decide +kernel
theorem d_Model_counts_152 : decode b_Model_counts 152 = .ok (.goto (-146), 3) := by decide +kernel
theorem d_Model_counts_155 : decode b_Model_counts 155 = .ok (.iload 4, 2) := by decide +kernel
theorem d_Model_counts_157 : decode b_Model_counts 157 = .ok (.ireturn, 1) := by decide +kernel
theorem d_Model_counts : decode b_Model_counts 0 = .ok (.iconst 1, 1) ∧ decode b_Model_counts 1 = .ok (.istore 4, 2) ∧ decode b_Model_counts 3 = .ok (.iconst 0, 1) ∧ decode b_Model_counts 4 = .ok (.istore 5, 2) ∧ decode b_Model_counts 6 = .ok (.iload 5, 2) ∧ decode b_Model_counts 8 = .ok (.iconst 4, 1) ∧ decode b_Model_counts 9 = .ok (.if_icmp .ge 146, 3) ∧ decode b_Model_counts 12 = .ok (.aload_n 0, 1) ∧ decode b_Model_counts 13 = .ok (.getfield 42, 3) ∧ decode b_Model_counts 16 = .ok (.iload 5, 2) ∧ decode b_Model_counts 18 = .ok (.aload_n 0, 1) ∧ decode b_Model_counts 19 = .ok (.getfield 36, 3) ∧ decode b_Model_counts 22 = .ok (.iconst 4, 1) ∧ decode b_Model_counts 23 = .ok (.iload_n 1, 1) ∧ decode b_Model_counts 24 = .ok (.imul, 1) ∧ decode b_Model_counts 25 = .ok (.iload 5, 2) ∧ decode b_Model_counts 27 = .ok (.iadd, 1) ∧ decode b_Model_counts 28 = .ok (.iaload, 1) ∧ decode b_Model_counts 29 = .ok (.iload_n 3, 1) ∧ decode b_Model_counts 30 = .ok (.if_icmp .ge 7, 3) ∧ decode b_Model_counts 33 = .ok (.iconst 0, 1) ∧ decode b_Model_counts 34 = .ok (.goto 10, 3) ∧ decode b_Model_counts 37 = .ok (.aload_n 0, 1) ∧ decode b_Model_counts 38 = .ok (.getfield 39, 3) ∧ decode b_Model_counts 41 = .ok (.iload 5, 2) ∧ decode b_Model_counts 43 = .ok (.iaload, 1) ∧ decode b_Model_counts 44 = .ok (.iastore, 1) ∧ decode b_Model_counts 45 = .ok (.iconst 1, 1) ∧ decode b_Model_counts 46 = .ok (.istore 6, 2) ∧ decode b_Model_counts 48 = .ok (.iconst 0, 1) ∧ decode b_Model_counts 49 = .ok (.istore 7, 2) ∧ decode b_Model_counts 51 = .ok (.iload 7, 2) ∧ decode b_Model_counts 53 = .ok (.bipush 6, 2) ∧ decode b_Model_counts 55 = .ok (.if_icmp .ge 94, 3) ∧ decode b_Model_counts 58 = .ok (.aload_n 0, 1) ∧ decode b_Model_counts 59 = .ok (.iload_n 1, 1) ∧ decode b_Model_counts 60 = .ok (.bipush 64, 2) ∧ decode b_Model_counts 62 = .ok (.bipush 6, 2) ∧ decode b_Model_counts 64 = .ok (.iload 5, 2) ∧ decode b_Model_counts 66 = .ok (.imul, 1) ∧ decode b_Model_counts 67 = .ok (.iadd, 1) ∧ decode b_Model_counts 68 = .ok (.iload 7, 2) ∧ decode b_Model_counts 70 = .ok (.iadd, 1) ∧ decode b_Model_counts 71 = .ok (.iload_n 2, 1) ∧ decode b_Model_counts 72 = .ok (.invokevirtual 151, 3) ∧ decode b_Model_counts 75 = .ok (.istore 8, 2) ∧ decode b_Model_counts 77 = .ok (.iload 4, 2) ∧ decode b_Model_counts 79 = .ok (.ifCond .eq 14, 3) ∧ decode b_Model_counts 82 = .ok (.iload 8, 2) ∧ decode b_Model_counts 84 = .ok (.bipush (-2), 2) ∧ decode b_Model_counts 86 = .ok (.if_icmp .eq 7, 3) ∧ decode b_Model_counts 89 = .ok (.iconst 1, 1) ∧ decode b_Model_counts 90 = .ok (.goto 4, 3) ∧ decode b_Model_counts 93 = .ok (.iconst 0, 1) ∧ decode b_Model_counts 94 = .ok (.istore 4, 2) ∧ decode b_Model_counts 96 = .ok (.iload 8, 2) ∧ decode b_Model_counts 98 = .ok (.ifCond .ge 7, 3) ∧ decode b_Model_counts 101 = .ok (.iconst 0, 1) ∧ decode b_Model_counts 102 = .ok (.goto 8, 3) ∧ decode b_Model_counts 105 = .ok (.iload 8, 2) ∧ decode b_Model_counts 107 = .ok (.invokestatic 59, 3) ∧ decode b_Model_counts 110 = .ok (.istore 9, 2) ∧ decode b_Model_counts 112 = .ok (.aload_n 0, 1) ∧ decode b_Model_counts 113 = .ok (.getfield 42, 3) ∧ decode b_Model_counts 116 = .ok (.iload 5, 2) ∧ decode b_Model_counts 118 = .ok (.dup2, 1) ∧ decode b_Model_counts 119 = .ok (.iaload, 1) ∧ decode b_Model_counts 120 = .ok (.iload 9, 2) ∧ decode b_Model_counts 122 = .ok (.ifCond .le 11, 3) ∧ decode b_Model_counts 125 = .ok (.iload 9, 2) ∧ decode b_Model_counts 127 = .ok (.iload 6, 2) ∧ decode b_Model_counts 129 = .ok (.imul, 1) ∧ decode b_Model_counts 130 = .ok (.goto 4, 3) ∧ decode b_Model_counts 133 = .ok (.iconst 0, 1) ∧ decode b_Model_counts 134 = .ok (.iadd, 1) ∧ decode b_Model_counts 135 = .ok (.iastore, 1) ∧ decode b_Model_counts 136 = .ok (.bipush 10, 2) ∧ decode b_Model_counts 138 = .ok (.iload 6, 2) ∧ decode b_Model_counts 140 = .ok (.imul, 1) ∧ decode b_Model_counts 141 = .ok (.istore 6, 2) ∧ decode b_Model_counts 143 = .ok (.iinc 7 1, 3) ∧ decode b_Model_counts 146 = .ok (.goto (-95), 3) ∧ decode b_Model_counts 149 = .ok (.iinc 5 1, 3) ∧ decode b_Model_counts 152 = .ok (.goto (-146), 3) ∧ decode b_Model_counts 155 = .ok (.iload 4, 2) ∧ decode b_Model_counts 157 = .ok (.ireturn, 1) := ⟨d_Model_counts_0, d_Model_counts_1, d_Model_counts_3, d_Model_counts_4, d_Model_counts_6, d_Model_counts_8, d_Model_counts_9, d_Model_counts_12, d_Model_counts_13, d_Model_counts_16, d_Model_counts_18, d_Model_counts_19, d_Model_counts_22, d_Model_counts_23, d_Model_counts_24, d_Model_counts_25, d_Model_counts_27, d_Model_counts_28, d_Model_counts_29, d_Model_counts_30, d_Model_counts_33, d_Model_counts_34, d_Model_counts_37, d_Model_counts_38, d_Model_counts_41, d_Model_counts_43, d_Model_counts_44, d_Model_counts_45, d_Model_counts_46, d_Model_counts_48, d_Model_counts_49, d_Model_counts_51, d_Model_counts_53, d_Model_counts_55, d_Model_counts_58, d_Model_counts_59, d_Model_counts_60, d_Model_counts_62, d_Model_counts_64, d_Model_counts_66, d_Model_counts_67, d_Model_counts_68, d_Model_counts_70, d_Model_counts_71, d_Model_counts_72, d_Model_counts_75, d_Model_counts_77, d_Model_counts_79, d_Model_counts_82, d_Model_counts_84, d_Model_counts_86, d_Model_counts_89, d_Model_counts_90, d_Model_counts_93, d_Model_counts_94, d_Model_counts_96, d_Model_counts_98, d_Model_counts_101, d_Model_counts_102, d_Model_counts_105, d_Model_counts_107, d_Model_counts_110, d_Model_counts_112, d_Model_counts_113, d_Model_counts_116, d_Model_counts_118, d_Model_counts_119, d_Model_counts_120, d_Model_counts_122, d_Model_counts_125, d_Model_counts_127, d_Model_counts_129, d_Model_counts_130, d_Model_counts_133, d_Model_counts_134, d_Model_counts_135, d_Model_counts_136, d_Model_counts_138, d_Model_counts_140, d_Model_counts_141, d_Model_counts_143, d_Model_counts_146, d_Model_counts_149, d_Model_counts_152, d_Model_counts_155, d_Model_counts_157⟩
theorem v_Model_counts : Cond.instanceMethod y_Model_counts ∈ nm_Ts ∧ Cond.selects y_Model_counts.cls y_Model_counts y_Model_counts ∈ nm_Ts ∧ Cond.initialized y_Model_counts.cls ∈ nm_Ts ∧ Cond.code y_Model_counts b_Model_counts 10 (some .boolean) ∈ nm_Ts ∧ mz_cl1 y_Model_counts 3 := ⟨nm_t5 82 rfl rfl, nm_s 40 rfl rfl, nm_t1 12 rfl rfl, nm_t5 83 rfl rfl, by decide +kernel⟩
def y_Model_clashes : MethodName := ⟨"CardOfficeModel", "clashes", "(II)Z"⟩
abbrev b_Model_clashes : ByteArray := prog_14_method_50_code
def r_Model_clashes (c s : Nat) : Room := { frames := 2, cells := c, slots := s, locals := 52 }
theorem d_Model_clashes_0 : decode b_Model_clashes 0 = .ok (.iconst 0, 1) := by decide +kernel
theorem d_Model_clashes_1 : decode b_Model_clashes 1 = .ok (.istore_n 3, 1) := by decide +kernel
theorem d_Model_clashes_2 : decode b_Model_clashes 2 = .ok (.iconst 0, 1) := by decide +kernel
theorem d_Model_clashes_3 : decode b_Model_clashes 3 = .ok (.istore 4, 2) := by decide +kernel
theorem d_Model_clashes_5 : decode b_Model_clashes 5 = .ok (.iload 4, 2) := by decide +kernel
theorem d_Model_clashes_7 : decode b_Model_clashes 7 = .ok (.bipush 24, 2) := by decide +kernel
theorem d_Model_clashes_9 : decode b_Model_clashes 9 = .ok (.if_icmp .ge 32, 3) := by decide +kernel
theorem d_Model_clashes_12 : decode b_Model_clashes 12 = .ok (.iload_n 3, 1) := by decide +kernel
theorem d_Model_clashes_13 : decode b_Model_clashes 13 = .ok (.ifCond .ne 16, 3) := by decide +kernel
theorem d_Model_clashes_16 : decode b_Model_clashes 16 = .ok (.aload_n 0, 1) := by decide +kernel
theorem d_Model_clashes_17 : decode b_Model_clashes 17 = .ok (.iload_n 1, 1) := by decide +kernel
theorem d_Model_clashes_18 : decode b_Model_clashes 18 = .ok (.iload_n 2, 1) := by decide +kernel
theorem d_Model_clashes_19 : decode b_Model_clashes 19 = .ok (.iload 4, 2) := by decide +kernel
theorem d_Model_clashes_21 : decode b_Model_clashes 21 = .ok (.invokevirtual 185, 3) := by decide +kernel
theorem d_Model_clashes_24 : decode b_Model_clashes 24 = .ok (.bipush (-2), 2) := by decide +kernel
theorem d_Model_clashes_26 : decode b_Model_clashes 26 = .ok (.if_icmp .ne 7, 3) := by decide +kernel
theorem d_Model_clashes_29 : decode b_Model_clashes 29 = .ok (.iconst 1, 1) := by decide +kernel
theorem d_Model_clashes_30 : decode b_Model_clashes 30 = .ok (.goto 4, 3) := by decide +kernel
theorem d_Model_clashes_33 : decode b_Model_clashes 33 = .ok (.iconst 0, 1) := by decide +kernel
theorem d_Model_clashes_34 : decode b_Model_clashes 34 = .ok (.istore_n 3, 1) := by decide +kernel
theorem d_Model_clashes_35 : decode b_Model_clashes 35 = .ok (.iinc 4 1, 3) := by decide +kernel
theorem d_Model_clashes_38 : decode b_Model_clashes 38 = .ok (.goto (-33), 3) := by decide +kernel
theorem d_Model_clashes_41 : decode b_Model_clashes 41 = .ok (.iload_n 3, 1) := by decide +kernel
theorem d_Model_clashes_42 : decode b_Model_clashes 42 = .ok (.ireturn, 1) := by decide +kernel
theorem d_Model_clashes : decode b_Model_clashes 0 = .ok (.iconst 0, 1) ∧ decode b_Model_clashes 1 = .ok (.istore_n 3, 1) ∧ decode b_Model_clashes 2 = .ok (.iconst 0, 1) ∧ decode b_Model_clashes 3 = .ok (.istore 4, 2) ∧ decode b_Model_clashes 5 = .ok (.iload 4, 2) ∧ decode b_Model_clashes 7 = .ok (.bipush 24, 2) ∧ decode b_Model_clashes 9 = .ok (.if_icmp .ge 32, 3) ∧ decode b_Model_clashes 12 = .ok (.iload_n 3, 1) ∧ decode b_Model_clashes 13 = .ok (.ifCond .ne 16, 3) ∧ decode b_Model_clashes 16 = .ok (.aload_n 0, 1) ∧ decode b_Model_clashes 17 = .ok (.iload_n 1, 1) ∧ decode b_Model_clashes 18 = .ok (.iload_n 2, 1) ∧ decode b_Model_clashes 19 = .ok (.iload 4, 2) ∧ decode b_Model_clashes 21 = .ok (.invokevirtual 185, 3) ∧ decode b_Model_clashes 24 = .ok (.bipush (-2), 2) ∧ decode b_Model_clashes 26 = .ok (.if_icmp .ne 7, 3) ∧ decode b_Model_clashes 29 = .ok (.iconst 1, 1) ∧ decode b_Model_clashes 30 = .ok (.goto 4, 3) ∧ decode b_Model_clashes 33 = .ok (.iconst 0, 1) ∧ decode b_Model_clashes 34 = .ok (.istore_n 3, 1) ∧ decode b_Model_clashes 35 = .ok (.iinc 4 1, 3) ∧ decode b_Model_clashes 38 = .ok (.goto (-33), 3) ∧ decode b_Model_clashes 41 = .ok (.iload_n 3, 1) ∧ decode b_Model_clashes 42 = .ok (.ireturn, 1) := ⟨d_Model_clashes_0, d_Model_clashes_1, d_Model_clashes_2, d_Model_clashes_3, d_Model_clashes_5, d_Model_clashes_7, d_Model_clashes_9, d_Model_clashes_12, d_Model_clashes_13, d_Model_clashes_16, d_Model_clashes_17, d_Model_clashes_18, d_Model_clashes_19, d_Model_clashes_21, d_Model_clashes_24, d_Model_clashes_26, d_Model_clashes_29, d_Model_clashes_30, d_Model_clashes_33, d_Model_clashes_34, d_Model_clashes_35, d_Model_clashes_38, d_Model_clashes_41, d_Model_clashes_42⟩
theorem v_Model_clashes : Cond.instanceMethod y_Model_clashes ∈ nm_Ts ∧ Cond.selects y_Model_clashes.cls y_Model_clashes y_Model_clashes ∈ nm_Ts ∧ Cond.initialized y_Model_clashes.cls ∈ nm_Ts ∧ Cond.code y_Model_clashes b_Model_clashes 5 (some .boolean) ∈ nm_Ts ∧ mz_cl1 y_Model_clashes 2 := ⟨nm_t5 86 rfl rfl, nm_s 41 rfl rfl, nm_t1 12 rfl rfl, nm_t5 87 rfl rfl, by decide +kernel⟩
def y_Model_totals : MethodName := ⟨"CardOfficeModel", "totals", "(III)I"⟩
abbrev b_Model_totals : ByteArray := prog_14_method_48_code
def r_Model_totals (c s : Nat) : Room := { frames := 1, cells := c, slots := s, locals := 24 }
theorem d_Model_totals_0 : decode b_Model_totals 0 = .ok (.iconst (-1), 1) := by decide +kernel
theorem d_Model_totals_1 : decode b_Model_totals 1 = .ok (.istore 4, 2) := by decide +kernel
theorem d_Model_totals_3 : decode b_Model_totals 3 = .ok (.bipush 40, 2) := by decide +kernel
theorem d_Model_totals_5 : decode b_Model_totals 5 = .ok (.iload_n 1, 1) := by decide +kernel
theorem d_Model_totals_6 : decode b_Model_totals 6 = .ok (.imul, 1) := by decide +kernel
theorem d_Model_totals_7 : decode b_Model_totals 7 = .ok (.istore 5, 2) := by decide +kernel
theorem d_Model_totals_9 : decode b_Model_totals 9 = .ok (.iload 5, 2) := by decide +kernel
theorem d_Model_totals_11 : decode b_Model_totals 11 = .ok (.bipush 40, 2) := by decide +kernel
theorem d_Model_totals_13 : decode b_Model_totals 13 = .ok (.iload_n 1, 1) := by decide +kernel
theorem d_Model_totals_14 : decode b_Model_totals 14 = .ok (.imul, 1) := by decide +kernel
theorem d_Model_totals_15 : decode b_Model_totals 15 = .ok (.aload_n 0, 1) := by decide +kernel
theorem d_Model_totals_16 : decode b_Model_totals 16 = .ok (.getfield 33, 3) := by decide +kernel
theorem d_Model_totals_19 : decode b_Model_totals 19 = .ok (.iload_n 1, 1) := by decide +kernel
theorem d_Model_totals_20 : decode b_Model_totals 20 = .ok (.iaload, 1) := by decide +kernel
theorem d_Model_totals_21 : decode b_Model_totals 21 = .ok (.iadd, 1) := by decide +kernel
theorem d_Model_totals_22 : decode b_Model_totals 22 = .ok (.if_icmp .ge 145, 3) := by decide +kernel
theorem d_Model_totals_25 : decode b_Model_totals 25 = .ok (.aload_n 0, 1) := by decide +kernel
theorem d_Model_totals_26 : decode b_Model_totals 26 = .ok (.getfield 27, 3) := by decide +kernel
theorem d_Model_totals_29 : decode b_Model_totals 29 = .ok (.iload 5, 2) := by decide +kernel
theorem d_Model_totals_31 : decode b_Model_totals 31 = .ok (.baload, 1) := by decide +kernel
theorem d_Model_totals_32 : decode b_Model_totals 32 = .ok (.bipush 32, 2) := by decide +kernel
theorem d_Model_totals_34 : decode b_Model_totals 34 = .ok (.isub, 1) := by decide +kernel
theorem d_Model_totals_35 : decode b_Model_totals 35 = .ok (.istore 6, 2) := by decide +kernel
theorem d_Model_totals_37 : decode b_Model_totals 37 = .ok (.aload_n 0, 1) := by decide +kernel
theorem d_Model_totals_38 : decode b_Model_totals 38 = .ok (.getfield 30, 3) := by decide +kernel
theorem d_Model_totals_41 : decode b_Model_totals 41 = .ok (.iload 5, 2) := by decide +kernel
theorem d_Model_totals_43 : decode b_Model_totals 43 = .ok (.baload, 1) := by decide +kernel
theorem d_Model_totals_44 : decode b_Model_totals 44 = .ok (.bipush 32, 2) := by decide +kernel
theorem d_Model_totals_46 : decode b_Model_totals 46 = .ok (.iload_n 3, 1) := by decide +kernel
theorem d_Model_totals_47 : decode b_Model_totals 47 = .ok (.iadd, 1) := by decide +kernel
theorem d_Model_totals_48 : decode b_Model_totals 48 = .ok (.if_icmp .ne 39, 3) := by decide +kernel
theorem d_Model_totals_51 : decode b_Model_totals 51 = .ok (.iload 6, 2) := by decide +kernel
theorem d_Model_totals_53 : decode b_Model_totals 53 = .ok (.ifCond .lt 34, 3) := by decide +kernel
theorem d_Model_totals_56 : decode b_Model_totals 56 = .ok (.aload_n 0, 1) := by decide +kernel
theorem d_Model_totals_57 : decode b_Model_totals 57 = .ok (.getfield 36, 3) := by decide +kernel
theorem d_Model_totals_60 : decode b_Model_totals 60 = .ok (.iconst 4, 1) := by decide +kernel
theorem d_Model_totals_61 : decode b_Model_totals 61 = .ok (.iload_n 1, 1) := by decide +kernel
theorem d_Model_totals_62 : decode b_Model_totals 62 = .ok (.imul, 1) := by decide +kernel
theorem d_Model_totals_63 : decode b_Model_totals 63 = .ok (.iload 6, 2) := by decide +kernel
theorem d_Model_totals_65 : decode b_Model_totals 65 = .ok (.ifCond .ge 7, 3) := by decide +kernel
theorem d_Model_totals_68 : decode b_Model_totals 68 = .ok (.iconst 0, 1) := by decide +kernel
theorem d_Model_totals_69 : decode b_Model_totals 69 = .ok (.goto 8, 3) := by decide +kernel
theorem d_Model_totals_72 : decode b_Model_totals 72 = .ok (.iload 6, 2) := by decide +kernel
theorem d_Model_totals_74 : decode b_Model_totals 74 = .ok (.bipush 6, 2) := by decide +kernel
theorem d_Model_totals_76 : decode b_Model_totals 76 = .ok (.idiv, 1) := by decide +kernel
theorem d_Model_totals_77 : decode b_Model_totals 77 = .ok (.iadd, 1) := by decide +kernel
theorem d_Model_totals_78 : decode b_Model_totals 78 = .ok (.iaload, 1) := by decide +kernel
theorem d_Model_totals_79 : decode b_Model_totals 79 = .ok (.iload_n 2, 1) := by decide +kernel
theorem d_Model_totals_80 : decode b_Model_totals 80 = .ok (.if_icmp .ne 7, 3) := by decide +kernel
theorem d_Model_totals_83 : decode b_Model_totals 83 = .ok (.iconst 1, 1) := by decide +kernel
theorem d_Model_totals_84 : decode b_Model_totals 84 = .ok (.goto 4, 3) := by decide +kernel
theorem d_Model_totals_87 : decode b_Model_totals 87 = .ok (.iconst 0, 1) := by decide +kernel
theorem d_Model_totals_88 : decode b_Model_totals 88 = .ok (.istore 7, 2) := by decide +kernel
theorem d_Model_totals_90 : decode b_Model_totals 90 = .ok (.iload 7, 2) := by decide +kernel
theorem d_Model_totals_92 : decode b_Model_totals 92 = .ok (.ifCond .eq 34, 3) := by decide +kernel
theorem d_Model_totals_95 : decode b_Model_totals 95 = .ok (.aload_n 0, 1) := by decide +kernel
theorem d_Model_totals_96 : decode b_Model_totals 96 = .ok (.aload_n 0, 1) := by decide +kernel
theorem d_Model_totals_97 : decode b_Model_totals 97 = .ok (.getfield 39, 3) := by decide +kernel
theorem d_Model_totals_100 : decode b_Model_totals 100 = .ok (.iload 6, 2) := by decide +kernel
theorem d_Model_totals_102 : decode b_Model_totals 102 = .ok (.ifCond .ge 7, 3) := by decide +kernel
theorem d_Model_totals_105 : decode b_Model_totals 105 = .ok (.iconst 0, 1) := by decide +kernel
theorem d_Model_totals_106 : decode b_Model_totals 106 = .ok (.goto 8, 3) := by decide +kernel
theorem d_Model_totals_109 : decode b_Model_totals 109 = .ok (.iload 6, 2) := by decide +kernel
theorem d_Model_totals_111 : decode b_Model_totals 111 = .ok (.bipush 6, 2) := by decide +kernel
theorem d_Model_totals_113 : decode b_Model_totals 113 = .ok (.idiv, 1) := by decide +kernel
theorem d_Model_totals_114 : decode b_Model_totals 114 = .ok (.iaload, 1) := by decide +kernel
theorem d_Model_totals_115 : decode b_Model_totals 115 = .ok (.iload 6, 2) := by decide +kernel
theorem d_Model_totals_117 : decode b_Model_totals 117 = .ok (.bipush 6, 2) := by decide +kernel
theorem d_Model_totals_119 : decode b_Model_totals 119 = .ok (.irem, 1) := by decide +kernel
theorem d_Model_totals_120 : decode b_Model_totals 120 = .ok (.invokevirtual 182, 3) := by decide +kernel
theorem d_Model_totals_123 : decode b_Model_totals 123 = .ok (.goto 4, 3) := by decide +kernel
theorem d_Model_totals_126 : decode b_Model_totals 126 = .ok (.iconst (-1), 1) := by decide +kernel
theorem d_Model_totals_127 : decode b_Model_totals 127 = .ok (.istore 8, 2) := by decide +kernel
theorem d_Model_totals_129 : decode b_Model_totals 129 = .ok (.iload 8, 2) := by decide +kernel
theorem d_Model_totals_131 : decode b_Model_totals 131 = .ok (.ifCond .lt 10, 3) := by decide +kernel
theorem d_Model_totals_134 : decode b_Model_totals 134 = .ok (.iload 8, 2) := by decide +kernel
theorem d_Model_totals_136 : decode b_Model_totals 136 = .ok (.iload 4, 2) := by decide +kernel
theorem d_Model_totals_138 : decode b_Model_totals 138 = .ok (.if_icmp .ne 8, 3) := by decide +kernel
theorem d_Model_totals_141 : decode b_Model_totals 141 = .ok (.iload 4, 2) := by decide +kernel
theorem d_Model_totals_143 : decode b_Model_totals 143 = .ok (.goto 16, 3) := by decide +kernel
theorem d_Model_totals_146 : decode b_Model_totals 146 = .ok (.iload 4, 2) := by decide +kernel
theorem d_Model_totals_148 : decode b_Model_totals 148 = .ok (.iconst (-1), 1) := by decide +kernel
theorem d_Model_totals_149 : decode b_Model_totals 149 = .ok (.if_icmp .ne 8, 3) := by decide +kernel
theorem d_Model_totals_152 : decode b_Model_totals 152 = .ok (.iload 8, 2) := by decide +kernel
theorem d_Model_totals_154 : decode b_Model_totals 154 = .ok (.goto 5, 3) := by decide +kernel
theorem d_Model_totals_157 : decode b_Model_totals 157 = .ok (.bipush (-2), 2) := by decide +kernel
theorem d_Model_totals_159 : decode b_Model_totals 159 = .ok (.istore 4, 2) := by decide +kernel
theorem d_Model_totals_161 : decode b_Model_totals 161 = .ok (.iinc 5 1, 3) := by decide +kernel
theorem d_Model_totals_164 : decode b_Model_totals 164 = .ok (.goto (-155), 3) := by decide +kernel
theorem d_Model_totals_167 : decode b_Model_totals 167 = .ok (.iload 4, 2) := by decide +kernel
theorem d_Model_totals_169 : decode b_Model_totals 169 = .ok (.ireturn, 1) := by decide +kernel
theorem d_Model_totals : decode b_Model_totals 0 = .ok (.iconst (-1), 1) ∧ decode b_Model_totals 1 = .ok (.istore 4, 2) ∧ decode b_Model_totals 3 = .ok (.bipush 40, 2) ∧ decode b_Model_totals 5 = .ok (.iload_n 1, 1) ∧ decode b_Model_totals 6 = .ok (.imul, 1) ∧ decode b_Model_totals 7 = .ok (.istore 5, 2) ∧ decode b_Model_totals 9 = .ok (.iload 5, 2) ∧ decode b_Model_totals 11 = .ok (.bipush 40, 2) ∧ decode b_Model_totals 13 = .ok (.iload_n 1, 1) ∧ decode b_Model_totals 14 = .ok (.imul, 1) ∧ decode b_Model_totals 15 = .ok (.aload_n 0, 1) ∧ decode b_Model_totals 16 = .ok (.getfield 33, 3) ∧ decode b_Model_totals 19 = .ok (.iload_n 1, 1) ∧ decode b_Model_totals 20 = .ok (.iaload, 1) ∧ decode b_Model_totals 21 = .ok (.iadd, 1) ∧ decode b_Model_totals 22 = .ok (.if_icmp .ge 145, 3) ∧ decode b_Model_totals 25 = .ok (.aload_n 0, 1) ∧ decode b_Model_totals 26 = .ok (.getfield 27, 3) ∧ decode b_Model_totals 29 = .ok (.iload 5, 2) ∧ decode b_Model_totals 31 = .ok (.baload, 1) ∧ decode b_Model_totals 32 = .ok (.bipush 32, 2) ∧ decode b_Model_totals 34 = .ok (.isub, 1) ∧ decode b_Model_totals 35 = .ok (.istore 6, 2) ∧ decode b_Model_totals 37 = .ok (.aload_n 0, 1) ∧ decode b_Model_totals 38 = .ok (.getfield 30, 3) ∧ decode b_Model_totals 41 = .ok (.iload 5, 2) ∧ decode b_Model_totals 43 = .ok (.baload, 1) ∧ decode b_Model_totals 44 = .ok (.bipush 32, 2) ∧ decode b_Model_totals 46 = .ok (.iload_n 3, 1) ∧ decode b_Model_totals 47 = .ok (.iadd, 1) ∧ decode b_Model_totals 48 = .ok (.if_icmp .ne 39, 3) ∧ decode b_Model_totals 51 = .ok (.iload 6, 2) ∧ decode b_Model_totals 53 = .ok (.ifCond .lt 34, 3) ∧ decode b_Model_totals 56 = .ok (.aload_n 0, 1) ∧ decode b_Model_totals 57 = .ok (.getfield 36, 3) ∧ decode b_Model_totals 60 = .ok (.iconst 4, 1) ∧ decode b_Model_totals 61 = .ok (.iload_n 1, 1) ∧ decode b_Model_totals 62 = .ok (.imul, 1) ∧ decode b_Model_totals 63 = .ok (.iload 6, 2) ∧ decode b_Model_totals 65 = .ok (.ifCond .ge 7, 3) ∧ decode b_Model_totals 68 = .ok (.iconst 0, 1) ∧ decode b_Model_totals 69 = .ok (.goto 8, 3) ∧ decode b_Model_totals 72 = .ok (.iload 6, 2) ∧ decode b_Model_totals 74 = .ok (.bipush 6, 2) ∧ decode b_Model_totals 76 = .ok (.idiv, 1) ∧ decode b_Model_totals 77 = .ok (.iadd, 1) ∧ decode b_Model_totals 78 = .ok (.iaload, 1) ∧ decode b_Model_totals 79 = .ok (.iload_n 2, 1) ∧ decode b_Model_totals 80 = .ok (.if_icmp .ne 7, 3) ∧ decode b_Model_totals 83 = .ok (.iconst 1, 1) ∧ decode b_Model_totals 84 = .ok (.goto 4, 3) ∧ decode b_Model_totals 87 = .ok (.iconst 0, 1) ∧ decode b_Model_totals 88 = .ok (.istore 7, 2) ∧ decode b_Model_totals 90 = .ok (.iload 7, 2) ∧ decode b_Model_totals 92 = .ok (.ifCond .eq 34, 3) ∧ decode b_Model_totals 95 = .ok (.aload_n 0, 1) ∧ decode b_Model_totals 96 = .ok (.aload_n 0, 1) ∧ decode b_Model_totals 97 = .ok (.getfield 39, 3) ∧ decode b_Model_totals 100 = .ok (.iload 6, 2) ∧ decode b_Model_totals 102 = .ok (.ifCond .ge 7, 3) ∧ decode b_Model_totals 105 = .ok (.iconst 0, 1) ∧ decode b_Model_totals 106 = .ok (.goto 8, 3) ∧ decode b_Model_totals 109 = .ok (.iload 6, 2) ∧ decode b_Model_totals 111 = .ok (.bipush 6, 2) ∧ decode b_Model_totals 113 = .ok (.idiv, 1) ∧ decode b_Model_totals 114 = .ok (.iaload, 1) ∧ decode b_Model_totals 115 = .ok (.iload 6, 2) ∧ decode b_Model_totals 117 = .ok (.bipush 6, 2) ∧ decode b_Model_totals 119 = .ok (.irem, 1) ∧ decode b_Model_totals 120 = .ok (.invokevirtual 182, 3) ∧ decode b_Model_totals 123 = .ok (.goto 4, 3) ∧ decode b_Model_totals 126 = .ok (.iconst (-1), 1) ∧ decode b_Model_totals 127 = .ok (.istore 8, 2) ∧ decode b_Model_totals 129 = .ok (.iload 8, 2) ∧ decode b_Model_totals 131 = .ok (.ifCond .lt 10, 3) ∧ decode b_Model_totals 134 = .ok (.iload 8, 2) ∧ decode b_Model_totals 136 = .ok (.iload 4, 2) ∧ decode b_Model_totals 138 = .ok (.if_icmp .ne 8, 3) ∧ decode b_Model_totals 141 = .ok (.iload 4, 2) ∧ decode b_Model_totals 143 = .ok (.goto 16, 3) ∧ decode b_Model_totals 146 = .ok (.iload 4, 2) ∧ decode b_Model_totals 148 = .ok (.iconst (-1), 1) ∧ decode b_Model_totals 149 = .ok (.if_icmp .ne 8, 3) ∧ decode b_Model_totals 152 = .ok (.iload 8, 2) ∧ decode b_Model_totals 154 = .ok (.goto 5, 3) ∧ decode b_Model_totals 157 = .ok (.bipush (-2), 2) ∧ decode b_Model_totals 159 = .ok (.istore 4, 2) ∧ decode b_Model_totals 161 = .ok (.iinc 5 1, 3) ∧ decode b_Model_totals 164 = .ok (.goto (-155), 3) ∧ decode b_Model_totals 167 = .ok (.iload 4, 2) ∧ decode b_Model_totals 169 = .ok (.ireturn, 1) := ⟨d_Model_totals_0, d_Model_totals_1, d_Model_totals_3, d_Model_totals_5, d_Model_totals_6, d_Model_totals_7, d_Model_totals_9, d_Model_totals_11, d_Model_totals_13, d_Model_totals_14, d_Model_totals_15, d_Model_totals_16, d_Model_totals_19, d_Model_totals_20, d_Model_totals_21, d_Model_totals_22, d_Model_totals_25, d_Model_totals_26, d_Model_totals_29, d_Model_totals_31, d_Model_totals_32, d_Model_totals_34, d_Model_totals_35, d_Model_totals_37, d_Model_totals_38, d_Model_totals_41, d_Model_totals_43, d_Model_totals_44, d_Model_totals_46, d_Model_totals_47, d_Model_totals_48, d_Model_totals_51, d_Model_totals_53, d_Model_totals_56, d_Model_totals_57, d_Model_totals_60, d_Model_totals_61, d_Model_totals_62, d_Model_totals_63, d_Model_totals_65, d_Model_totals_68, d_Model_totals_69, d_Model_totals_72, d_Model_totals_74, d_Model_totals_76, d_Model_totals_77, d_Model_totals_78, d_Model_totals_79, d_Model_totals_80, d_Model_totals_83, d_Model_totals_84, d_Model_totals_87, d_Model_totals_88, d_Model_totals_90, d_Model_totals_92, d_Model_totals_95, d_Model_totals_96, d_Model_totals_97, d_Model_totals_100, d_Model_totals_102, d_Model_totals_105, d_Model_totals_106, d_Model_totals_109, d_Model_totals_111, d_Model_totals_113, d_Model_totals_114, d_Model_totals_115, d_Model_totals_117, d_Model_totals_119, d_Model_totals_120, d_Model_totals_123, d_Model_totals_126, d_Model_totals_127, d_Model_totals_129, d_Model_totals_131, d_Model_totals_134, d_Model_totals_136, d_Model_totals_138, d_Model_totals_141, d_Model_totals_143, d_Model_totals_146, d_Model_totals_148, d_Model_totals_149, d_Model_totals_152, d_Model_totals_154, d_Model_totals_157, d_Model_totals_159, d_Model_totals_161, d_Model_totals_164, d_Model_totals_167, d_Model_totals_169⟩
theorem v_Model_totals : Cond.instanceMethod y_Model_totals ∈ nm_Ts ∧ Cond.selects y_Model_totals.cls y_Model_totals y_Model_totals ∈ nm_Ts ∧ Cond.initialized y_Model_totals.cls ∈ nm_Ts ∧ Cond.code y_Model_totals b_Model_totals 9 (some .int) ∈ nm_Ts ∧ mz_cl1 y_Model_totals 3 := ⟨nm_t5 90 rfl rfl, nm_s 42 rfl rfl, nm_t1 12 rfl rfl, nm_t5 91 rfl rfl, by decide +kernel⟩
def y_Model_wheel : MethodName := ⟨"CardOfficeModel", "wheel", "(II)I"⟩
abbrev b_Model_wheel : ByteArray := prog_14_method_47_code
def r_Model_wheel (c s : Nat) : Room := { frames := 0, cells := c, slots := s, locals := 0 }
theorem d_Model_wheel_0 : decode b_Model_wheel 0 = .ok (.iload_n 1, 1) := by decide +kernel
theorem d_Model_wheel_1 : decode b_Model_wheel 1 = .ok (.istore_n 3, 1) := by decide +kernel
theorem d_Model_wheel_2 : decode b_Model_wheel 2 = .ok (.iconst 0, 1) := by decide +kernel
theorem d_Model_wheel_3 : decode b_Model_wheel 3 = .ok (.istore 4, 2) := by decide +kernel
theorem d_Model_wheel_5 : decode b_Model_wheel 5 = .ok (.iload 4, 2) := by decide +kernel
theorem d_Model_wheel_7 : decode b_Model_wheel 7 = .ok (.iload_n 2, 1) := by decide +kernel
theorem d_Model_wheel_8 : decode b_Model_wheel 8 = .ok (.if_icmp .ge 14, 3) := by decide +kernel
theorem d_Model_wheel_11 : decode b_Model_wheel 11 = .ok (.iload_n 3, 1) := by decide +kernel
theorem d_Model_wheel_12 : decode b_Model_wheel 12 = .ok (.bipush 10, 2) := by decide +kernel
theorem d_Model_wheel_14 : decode b_Model_wheel 14 = .ok (.idiv, 1) := by decide +kernel
theorem d_Model_wheel_15 : decode b_Model_wheel 15 = .ok (.istore_n 3, 1) := by decide +kernel
theorem d_Model_wheel_16 : decode b_Model_wheel 16 = .ok (.iinc 4 1, 3) := by decide +kernel
theorem d_Model_wheel_19 : decode b_Model_wheel 19 = .ok (.goto (-14), 3) := by decide +kernel
theorem d_Model_wheel_22 : decode b_Model_wheel 22 = .ok (.iload_n 3, 1) := by decide +kernel
theorem d_Model_wheel_23 : decode b_Model_wheel 23 = .ok (.ifCond .ne 12, 3) := by decide +kernel
theorem d_Model_wheel_26 : decode b_Model_wheel 26 = .ok (.iload_n 2, 1) := by decide +kernel
theorem d_Model_wheel_27 : decode b_Model_wheel 27 = .ok (.ifCond .le 8, 3) := by decide +kernel
theorem d_Model_wheel_30 : decode b_Model_wheel 30 = .ok (.bipush 32, 2) := by decide +kernel
theorem d_Model_wheel_32 : decode b_Model_wheel 32 = .ok (.goto 10, 3) := by decide +kernel
theorem d_Model_wheel_35 : decode b_Model_wheel 35 = .ok (.bipush 48, 2) := by decide +kernel
theorem d_Model_wheel_37 : decode b_Model_wheel 37 = .ok (.iload_n 3, 1) := by decide +kernel
theorem d_Model_wheel_38 : decode b_Model_wheel 38 = .ok (.bipush 10, 2) := by decide +kernel
theorem d_Model_wheel_40 : decode b_Model_wheel 40 = .ok (.irem, 1) := by decide +kernel
theorem d_Model_wheel_41 : decode b_Model_wheel 41 = .ok (.iadd, 1) := by decide +kernel
theorem d_Model_wheel_42 : decode b_Model_wheel 42 = .ok (.ireturn, 1) := by decide +kernel
theorem d_Model_wheel : decode b_Model_wheel 0 = .ok (.iload_n 1, 1) ∧ decode b_Model_wheel 1 = .ok (.istore_n 3, 1) ∧ decode b_Model_wheel 2 = .ok (.iconst 0, 1) ∧ decode b_Model_wheel 3 = .ok (.istore 4, 2) ∧ decode b_Model_wheel 5 = .ok (.iload 4, 2) ∧ decode b_Model_wheel 7 = .ok (.iload_n 2, 1) ∧ decode b_Model_wheel 8 = .ok (.if_icmp .ge 14, 3) ∧ decode b_Model_wheel 11 = .ok (.iload_n 3, 1) ∧ decode b_Model_wheel 12 = .ok (.bipush 10, 2) ∧ decode b_Model_wheel 14 = .ok (.idiv, 1) ∧ decode b_Model_wheel 15 = .ok (.istore_n 3, 1) ∧ decode b_Model_wheel 16 = .ok (.iinc 4 1, 3) ∧ decode b_Model_wheel 19 = .ok (.goto (-14), 3) ∧ decode b_Model_wheel 22 = .ok (.iload_n 3, 1) ∧ decode b_Model_wheel 23 = .ok (.ifCond .ne 12, 3) ∧ decode b_Model_wheel 26 = .ok (.iload_n 2, 1) ∧ decode b_Model_wheel 27 = .ok (.ifCond .le 8, 3) ∧ decode b_Model_wheel 30 = .ok (.bipush 32, 2) ∧ decode b_Model_wheel 32 = .ok (.goto 10, 3) ∧ decode b_Model_wheel 35 = .ok (.bipush 48, 2) ∧ decode b_Model_wheel 37 = .ok (.iload_n 3, 1) ∧ decode b_Model_wheel 38 = .ok (.bipush 10, 2) ∧ decode b_Model_wheel 40 = .ok (.irem, 1) ∧ decode b_Model_wheel 41 = .ok (.iadd, 1) ∧ decode b_Model_wheel 42 = .ok (.ireturn, 1) := ⟨d_Model_wheel_0, d_Model_wheel_1, d_Model_wheel_2, d_Model_wheel_3, d_Model_wheel_5, d_Model_wheel_7, d_Model_wheel_8, d_Model_wheel_11, d_Model_wheel_12, d_Model_wheel_14, d_Model_wheel_15, d_Model_wheel_16, d_Model_wheel_19, d_Model_wheel_22, d_Model_wheel_23, d_Model_wheel_26, d_Model_wheel_27, d_Model_wheel_30, d_Model_wheel_32, d_Model_wheel_35, d_Model_wheel_37, d_Model_wheel_38, d_Model_wheel_40, d_Model_wheel_41, d_Model_wheel_42⟩
theorem v_Model_wheel : Cond.instanceMethod y_Model_wheel ∈ nm_Ts ∧ Cond.selects y_Model_wheel.cls y_Model_wheel y_Model_wheel ∈ nm_Ts ∧ Cond.initialized y_Model_wheel.cls ∈ nm_Ts ∧ Cond.code y_Model_wheel b_Model_wheel 5 (some .int) ∈ nm_Ts ∧ mz_cl1 y_Model_wheel 2 := ⟨nm_t5 94 rfl rfl, nm_s 43 rfl rfl, nm_t1 12 rfl rfl, nm_t5 95 rfl rfl, by decide +kernel⟩
def y_Model_hasLevel : MethodName := ⟨"CardOfficeModel", "hasLevel", "(II)Z"⟩
abbrev b_Model_hasLevel : ByteArray := prog_14_method_46_code
def r_Model_hasLevel (c s : Nat) : Room := { frames := 0, cells := c, slots := s, locals := 0 }
theorem d_Model_hasLevel_0 : decode b_Model_hasLevel 0 = .ok (.iconst 0, 1) := by decide +kernel
theorem d_Model_hasLevel_1 : decode b_Model_hasLevel 1 = .ok (.istore_n 3, 1) := by decide +kernel
theorem d_Model_hasLevel_2 : decode b_Model_hasLevel 2 = .ok (.iconst 0, 1) := by decide +kernel
theorem d_Model_hasLevel_3 : decode b_Model_hasLevel 3 = .ok (.istore 4, 2) := by decide +kernel
theorem d_Model_hasLevel_5 : decode b_Model_hasLevel 5 = .ok (.iload 4, 2) := by decide +kernel
theorem d_Model_hasLevel_7 : decode b_Model_hasLevel 7 = .ok (.iconst 4, 1) := by decide +kernel
theorem d_Model_hasLevel_8 : decode b_Model_hasLevel 8 = .ok (.if_icmp .ge 34, 3) := by decide +kernel
theorem d_Model_hasLevel_11 : decode b_Model_hasLevel 11 = .ok (.iload_n 3, 1) := by decide +kernel
theorem d_Model_hasLevel_12 : decode b_Model_hasLevel 12 = .ok (.ifCond .ne 18, 3) := by decide +kernel
theorem d_Model_hasLevel_15 : decode b_Model_hasLevel 15 = .ok (.aload_n 0, 1) := by decide +kernel
theorem d_Model_hasLevel_16 : decode b_Model_hasLevel 16 = .ok (.getfield 36, 3) := by decide +kernel
theorem d_Model_hasLevel_19 : decode b_Model_hasLevel 19 = .ok (.iconst 4, 1) := by decide +kernel
theorem d_Model_hasLevel_20 : decode b_Model_hasLevel 20 = .ok (.iload_n 1, 1) := by decide +kernel
theorem d_Model_hasLevel_21 : decode b_Model_hasLevel 21 = .ok (.imul, 1) := by decide +kernel
theorem d_Model_hasLevel_22 : decode b_Model_hasLevel 22 = .ok (.iload 4, 2) := by decide +kernel
theorem d_Model_hasLevel_24 : decode b_Model_hasLevel 24 = .ok (.iadd, 1) := by decide +kernel
theorem d_Model_hasLevel_25 : decode b_Model_hasLevel 25 = .ok (.iaload, 1) := by decide +kernel
theorem d_Model_hasLevel_26 : decode b_Model_hasLevel 26 = .ok (.iload_n 2, 1) := by decide +kernel
theorem d_Model_hasLevel_27 : decode b_Model_hasLevel 27 = .ok (.if_icmp .ne 7, 3) := by decide +kernel
theorem d_Model_hasLevel_30 : decode b_Model_hasLevel 30 = .ok (.iconst 1, 1) := by decide +kernel
theorem d_Model_hasLevel_31 : decode b_Model_hasLevel 31 = .ok (.goto 4, 3) := by decide +kernel
theorem d_Model_hasLevel_34 : decode b_Model_hasLevel 34 = .ok (.iconst 0, 1) := by decide +kernel
theorem d_Model_hasLevel_35 : decode b_Model_hasLevel 35 = .ok (.istore_n 3, 1) := by decide +kernel
theorem d_Model_hasLevel_36 : decode b_Model_hasLevel 36 = .ok (.iinc 4 1, 3) := by decide +kernel
theorem d_Model_hasLevel_39 : decode b_Model_hasLevel 39 = .ok (.goto (-34), 3) := by decide +kernel
theorem d_Model_hasLevel_42 : decode b_Model_hasLevel 42 = .ok (.iload_n 3, 1) := by decide +kernel
theorem d_Model_hasLevel_43 : decode b_Model_hasLevel 43 = .ok (.ireturn, 1) := by decide +kernel
theorem d_Model_hasLevel : decode b_Model_hasLevel 0 = .ok (.iconst 0, 1) ∧ decode b_Model_hasLevel 1 = .ok (.istore_n 3, 1) ∧ decode b_Model_hasLevel 2 = .ok (.iconst 0, 1) ∧ decode b_Model_hasLevel 3 = .ok (.istore 4, 2) ∧ decode b_Model_hasLevel 5 = .ok (.iload 4, 2) ∧ decode b_Model_hasLevel 7 = .ok (.iconst 4, 1) ∧ decode b_Model_hasLevel 8 = .ok (.if_icmp .ge 34, 3) ∧ decode b_Model_hasLevel 11 = .ok (.iload_n 3, 1) ∧ decode b_Model_hasLevel 12 = .ok (.ifCond .ne 18, 3) ∧ decode b_Model_hasLevel 15 = .ok (.aload_n 0, 1) ∧ decode b_Model_hasLevel 16 = .ok (.getfield 36, 3) ∧ decode b_Model_hasLevel 19 = .ok (.iconst 4, 1) ∧ decode b_Model_hasLevel 20 = .ok (.iload_n 1, 1) ∧ decode b_Model_hasLevel 21 = .ok (.imul, 1) ∧ decode b_Model_hasLevel 22 = .ok (.iload 4, 2) ∧ decode b_Model_hasLevel 24 = .ok (.iadd, 1) ∧ decode b_Model_hasLevel 25 = .ok (.iaload, 1) ∧ decode b_Model_hasLevel 26 = .ok (.iload_n 2, 1) ∧ decode b_Model_hasLevel 27 = .ok (.if_icmp .ne 7, 3) ∧ decode b_Model_hasLevel 30 = .ok (.iconst 1, 1) ∧ decode b_Model_hasLevel 31 = .ok (.goto 4, 3) ∧ decode b_Model_hasLevel 34 = .ok (.iconst 0, 1) ∧ decode b_Model_hasLevel 35 = .ok (.istore_n 3, 1) ∧ decode b_Model_hasLevel 36 = .ok (.iinc 4 1, 3) ∧ decode b_Model_hasLevel 39 = .ok (.goto (-34), 3) ∧ decode b_Model_hasLevel 42 = .ok (.iload_n 3, 1) ∧ decode b_Model_hasLevel 43 = .ok (.ireturn, 1) := ⟨d_Model_hasLevel_0, d_Model_hasLevel_1, d_Model_hasLevel_2, d_Model_hasLevel_3, d_Model_hasLevel_5, d_Model_hasLevel_7, d_Model_hasLevel_8, d_Model_hasLevel_11, d_Model_hasLevel_12, d_Model_hasLevel_15, d_Model_hasLevel_16, d_Model_hasLevel_19, d_Model_hasLevel_20, d_Model_hasLevel_21, d_Model_hasLevel_22, d_Model_hasLevel_24, d_Model_hasLevel_25, d_Model_hasLevel_26, d_Model_hasLevel_27, d_Model_hasLevel_30, d_Model_hasLevel_31, d_Model_hasLevel_34, d_Model_hasLevel_35, d_Model_hasLevel_36, d_Model_hasLevel_39, d_Model_hasLevel_42, d_Model_hasLevel_43⟩
theorem v_Model_hasLevel : Cond.instanceMethod y_Model_hasLevel ∈ nm_Ts ∧ Cond.selects y_Model_hasLevel.cls y_Model_hasLevel y_Model_hasLevel ∈ nm_Ts ∧ Cond.initialized y_Model_hasLevel.cls ∈ nm_Ts ∧ Cond.code y_Model_hasLevel b_Model_hasLevel 5 (some .boolean) ∈ nm_Ts ∧ mz_cl1 y_Model_hasLevel 2 := ⟨nm_t5 98 rfl rfl, nm_s 44 rfl rfl, nm_t1 12 rfl rfl, nm_t5 99 rfl rfl, by decide +kernel⟩
def y_Model_tabulateCard : MethodName := ⟨"CardOfficeModel", "tabulateCard", "(III)V"⟩
abbrev b_Model_tabulateCard : ByteArray := prog_14_method_55_code
def r_Model_tabulateCard (c s : Nat) : Room := { frames := 3, cells := c, slots := s, locals := 75 }
theorem d_Model_tabulateCard_0 : decode b_Model_tabulateCard 0 = .ok (.iconst 0, 1) := by decide +kernel
theorem d_Model_tabulateCard_1 : decode b_Model_tabulateCard 1 = .ok (.istore 4, 2) := by decide +kernel
theorem d_Model_tabulateCard_3 : decode b_Model_tabulateCard 3 = .ok (.iload 4, 2) := by decide +kernel
theorem d_Model_tabulateCard_5 : decode b_Model_tabulateCard 5 = .ok (.iload_n 3, 1) := by decide +kernel
theorem d_Model_tabulateCard_6 : decode b_Model_tabulateCard 6 = .ok (.if_icmp .ge 16, 3) := by decide +kernel
theorem d_Model_tabulateCard_9 : decode b_Model_tabulateCard 9 = .ok (.aload_n 0, 1) := by decide +kernel
theorem d_Model_tabulateCard_10 : decode b_Model_tabulateCard 10 = .ok (.iload_n 1, 1) := by decide +kernel
theorem d_Model_tabulateCard_11 : decode b_Model_tabulateCard 11 = .ok (.iload 4, 2) := by decide +kernel
theorem d_Model_tabulateCard_13 : decode b_Model_tabulateCard 13 = .ok (.invokevirtual 207, 3) := by decide +kernel
theorem d_Model_tabulateCard_16 : decode b_Model_tabulateCard 16 = .ok (.iinc 4 1, 3) := by decide +kernel
theorem d_Model_tabulateCard_19 : decode b_Model_tabulateCard 19 = .ok (.goto (-16), 3) := by decide +kernel
theorem d_Model_tabulateCard_22 : decode b_Model_tabulateCard 22 = .ok (.aload_n 0, 1) := by decide +kernel
theorem d_Model_tabulateCard_23 : decode b_Model_tabulateCard 23 = .ok (.iload_n 1, 1) := by decide +kernel
theorem d_Model_tabulateCard_24 : decode b_Model_tabulateCard 24 = .ok (.invokevirtual 197, 3) := by decide +kernel
theorem d_Model_tabulateCard_27 : decode b_Model_tabulateCard 27 = .ok (.ifCond .eq 46, 3) := by decide +kernel
theorem d_Model_tabulateCard_30 : decode b_Model_tabulateCard 30 = .ok (.iconst 0, 1) := by decide +kernel
theorem d_Model_tabulateCard_31 : decode b_Model_tabulateCard 31 = .ok (.istore 4, 2) := by decide +kernel
theorem d_Model_tabulateCard_33 : decode b_Model_tabulateCard 33 = .ok (.iload 4, 2) := by decide +kernel
theorem d_Model_tabulateCard_35 : decode b_Model_tabulateCard 35 = .ok (.bipush 24, 2) := by decide +kernel
theorem d_Model_tabulateCard_37 : decode b_Model_tabulateCard 37 = .ok (.if_icmp .ge 26, 3) := by decide +kernel
theorem d_Model_tabulateCard_40 : decode b_Model_tabulateCard 40 = .ok (.aload_n 0, 1) := by decide +kernel
theorem d_Model_tabulateCard_41 : decode b_Model_tabulateCard 41 = .ok (.iload 4, 2) := by decide +kernel
theorem d_Model_tabulateCard_43 : decode b_Model_tabulateCard 43 = .ok (.aload_n 0, 1) := by decide +kernel
theorem d_Model_tabulateCard_44 : decode b_Model_tabulateCard 44 = .ok (.iload_n 1, 1) := by decide +kernel
theorem d_Model_tabulateCard_45 : decode b_Model_tabulateCard 45 = .ok (.bipush 32, 2) := by decide +kernel
theorem d_Model_tabulateCard_47 : decode b_Model_tabulateCard 47 = .ok (.iload 4, 2) := by decide +kernel
theorem d_Model_tabulateCard_49 : decode b_Model_tabulateCard 49 = .ok (.iadd, 1) := by decide +kernel
theorem d_Model_tabulateCard_50 : decode b_Model_tabulateCard 50 = .ok (.iload_n 2, 1) := by decide +kernel
theorem d_Model_tabulateCard_51 : decode b_Model_tabulateCard 51 = .ok (.invokevirtual 151, 3) := by decide +kernel
theorem d_Model_tabulateCard_54 : decode b_Model_tabulateCard 54 = .ok (.invokevirtual 194, 3) := by decide +kernel
theorem d_Model_tabulateCard_57 : decode b_Model_tabulateCard 57 = .ok (.iinc 4 1, 3) := by decide +kernel
theorem d_Model_tabulateCard_60 : decode b_Model_tabulateCard 60 = .ok (.goto (-27), 3) := by decide +kernel
theorem d_Model_tabulateCard_63 : decode b_Model_tabulateCard 63 = .ok (.aload_n 0, 1) := by decide +kernel
theorem d_Model_tabulateCard_64 : decode b_Model_tabulateCard 64 = .ok (.dup, 1) := by decide +kernel
theorem d_Model_tabulateCard_65 : decode b_Model_tabulateCard 65 = .ok (.getfield 188, 3) := by decide +kernel
theorem d_Model_tabulateCard_68 : decode b_Model_tabulateCard 68 = .ok (.iconst 1, 1) := by decide +kernel
theorem d_Model_tabulateCard_69 : decode b_Model_tabulateCard 69 = .ok (.iadd, 1) := by decide +kernel
theorem d_Model_tabulateCard_70 : decode b_Model_tabulateCard 70 = .ok (.putfield 188, 3) := by decide +kernel
theorem d_Model_tabulateCard_73 : decode b_Model_tabulateCard 73 = .ok (.iconst 0, 1) := by decide +kernel
theorem d_Model_tabulateCard_74 : decode b_Model_tabulateCard 74 = .ok (.istore 4, 2) := by decide +kernel
theorem d_Model_tabulateCard_76 : decode b_Model_tabulateCard 76 = .ok (.iload 4, 2) := by decide +kernel
theorem d_Model_tabulateCard_78 : decode b_Model_tabulateCard 78 = .ok (.iconst 4, 1) := by decide +kernel
theorem d_Model_tabulateCard_79 : decode b_Model_tabulateCard 79 = .ok (.if_icmp .ge 23, 3) := by decide +kernel
theorem d_Model_tabulateCard_82 : decode b_Model_tabulateCard 82 = .ok (.aload_n 0, 1) := by decide +kernel
theorem d_Model_tabulateCard_83 : decode b_Model_tabulateCard 83 = .ok (.getfield 39, 3) := by decide +kernel
theorem d_Model_tabulateCard_86 : decode b_Model_tabulateCard 86 = .ok (.iload 4, 2) := by decide +kernel
theorem d_Model_tabulateCard_88 : decode b_Model_tabulateCard 88 = .ok (.aload_n 0, 1) := by decide +kernel
theorem d_Model_tabulateCard_89 : decode b_Model_tabulateCard 89 = .ok (.getfield 42, 3) := by decide +kernel
theorem d_Model_tabulateCard_92 : decode b_Model_tabulateCard 92 = .ok (.iload 4, 2) := by decide +kernel
theorem d_Model_tabulateCard_94 : decode b_Model_tabulateCard 94 = .ok (.iaload, 1) := by decide +kernel
theorem d_Model_tabulateCard_95 : decode b_Model_tabulateCard 95 = .ok (.iastore, 1) := by decide +kernel
theorem d_Model_tabulateCard_96 : decode b_Model_tabulateCard 96 = .ok (.iinc 4 1, 3) := by decide +kernel
theorem d_Model_tabulateCard_99 : decode b_Model_tabulateCard 99 = .ok (.goto (-23), 3) := by decide +kernel
theorem d_Model_tabulateCard_102 : decode b_Model_tabulateCard 102 = .ok (.return_, 1) := by decide +kernel
theorem d_Model_tabulateCard : decode b_Model_tabulateCard 0 = .ok (.iconst 0, 1) ∧ decode b_Model_tabulateCard 1 = .ok (.istore 4, 2) ∧ decode b_Model_tabulateCard 3 = .ok (.iload 4, 2) ∧ decode b_Model_tabulateCard 5 = .ok (.iload_n 3, 1) ∧ decode b_Model_tabulateCard 6 = .ok (.if_icmp .ge 16, 3) ∧ decode b_Model_tabulateCard 9 = .ok (.aload_n 0, 1) ∧ decode b_Model_tabulateCard 10 = .ok (.iload_n 1, 1) ∧ decode b_Model_tabulateCard 11 = .ok (.iload 4, 2) ∧ decode b_Model_tabulateCard 13 = .ok (.invokevirtual 207, 3) ∧ decode b_Model_tabulateCard 16 = .ok (.iinc 4 1, 3) ∧ decode b_Model_tabulateCard 19 = .ok (.goto (-16), 3) ∧ decode b_Model_tabulateCard 22 = .ok (.aload_n 0, 1) ∧ decode b_Model_tabulateCard 23 = .ok (.iload_n 1, 1) ∧ decode b_Model_tabulateCard 24 = .ok (.invokevirtual 197, 3) ∧ decode b_Model_tabulateCard 27 = .ok (.ifCond .eq 46, 3) ∧ decode b_Model_tabulateCard 30 = .ok (.iconst 0, 1) ∧ decode b_Model_tabulateCard 31 = .ok (.istore 4, 2) ∧ decode b_Model_tabulateCard 33 = .ok (.iload 4, 2) ∧ decode b_Model_tabulateCard 35 = .ok (.bipush 24, 2) ∧ decode b_Model_tabulateCard 37 = .ok (.if_icmp .ge 26, 3) ∧ decode b_Model_tabulateCard 40 = .ok (.aload_n 0, 1) ∧ decode b_Model_tabulateCard 41 = .ok (.iload 4, 2) ∧ decode b_Model_tabulateCard 43 = .ok (.aload_n 0, 1) ∧ decode b_Model_tabulateCard 44 = .ok (.iload_n 1, 1) ∧ decode b_Model_tabulateCard 45 = .ok (.bipush 32, 2) ∧ decode b_Model_tabulateCard 47 = .ok (.iload 4, 2) ∧ decode b_Model_tabulateCard 49 = .ok (.iadd, 1) ∧ decode b_Model_tabulateCard 50 = .ok (.iload_n 2, 1) ∧ decode b_Model_tabulateCard 51 = .ok (.invokevirtual 151, 3) ∧ decode b_Model_tabulateCard 54 = .ok (.invokevirtual 194, 3) ∧ decode b_Model_tabulateCard 57 = .ok (.iinc 4 1, 3) ∧ decode b_Model_tabulateCard 60 = .ok (.goto (-27), 3) ∧ decode b_Model_tabulateCard 63 = .ok (.aload_n 0, 1) ∧ decode b_Model_tabulateCard 64 = .ok (.dup, 1) ∧ decode b_Model_tabulateCard 65 = .ok (.getfield 188, 3) ∧ decode b_Model_tabulateCard 68 = .ok (.iconst 1, 1) ∧ decode b_Model_tabulateCard 69 = .ok (.iadd, 1) ∧ decode b_Model_tabulateCard 70 = .ok (.putfield 188, 3) ∧ decode b_Model_tabulateCard 73 = .ok (.iconst 0, 1) ∧ decode b_Model_tabulateCard 74 = .ok (.istore 4, 2) ∧ decode b_Model_tabulateCard 76 = .ok (.iload 4, 2) ∧ decode b_Model_tabulateCard 78 = .ok (.iconst 4, 1) ∧ decode b_Model_tabulateCard 79 = .ok (.if_icmp .ge 23, 3) ∧ decode b_Model_tabulateCard 82 = .ok (.aload_n 0, 1) ∧ decode b_Model_tabulateCard 83 = .ok (.getfield 39, 3) ∧ decode b_Model_tabulateCard 86 = .ok (.iload 4, 2) ∧ decode b_Model_tabulateCard 88 = .ok (.aload_n 0, 1) ∧ decode b_Model_tabulateCard 89 = .ok (.getfield 42, 3) ∧ decode b_Model_tabulateCard 92 = .ok (.iload 4, 2) ∧ decode b_Model_tabulateCard 94 = .ok (.iaload, 1) ∧ decode b_Model_tabulateCard 95 = .ok (.iastore, 1) ∧ decode b_Model_tabulateCard 96 = .ok (.iinc 4 1, 3) ∧ decode b_Model_tabulateCard 99 = .ok (.goto (-23), 3) ∧ decode b_Model_tabulateCard 102 = .ok (.return_, 1) := ⟨d_Model_tabulateCard_0, d_Model_tabulateCard_1, d_Model_tabulateCard_3, d_Model_tabulateCard_5, d_Model_tabulateCard_6, d_Model_tabulateCard_9, d_Model_tabulateCard_10, d_Model_tabulateCard_11, d_Model_tabulateCard_13, d_Model_tabulateCard_16, d_Model_tabulateCard_19, d_Model_tabulateCard_22, d_Model_tabulateCard_23, d_Model_tabulateCard_24, d_Model_tabulateCard_27, d_Model_tabulateCard_30, d_Model_tabulateCard_31, d_Model_tabulateCard_33, d_Model_tabulateCard_35, d_Model_tabulateCard_37, d_Model_tabulateCard_40, d_Model_tabulateCard_41, d_Model_tabulateCard_43, d_Model_tabulateCard_44, d_Model_tabulateCard_45, d_Model_tabulateCard_47, d_Model_tabulateCard_49, d_Model_tabulateCard_50, d_Model_tabulateCard_51, d_Model_tabulateCard_54, d_Model_tabulateCard_57, d_Model_tabulateCard_60, d_Model_tabulateCard_63, d_Model_tabulateCard_64, d_Model_tabulateCard_65, d_Model_tabulateCard_68, d_Model_tabulateCard_69, d_Model_tabulateCard_70, d_Model_tabulateCard_73, d_Model_tabulateCard_74, d_Model_tabulateCard_76, d_Model_tabulateCard_78, d_Model_tabulateCard_79, d_Model_tabulateCard_82, d_Model_tabulateCard_83, d_Model_tabulateCard_86, d_Model_tabulateCard_88, d_Model_tabulateCard_89, d_Model_tabulateCard_92, d_Model_tabulateCard_94, d_Model_tabulateCard_95, d_Model_tabulateCard_96, d_Model_tabulateCard_99, d_Model_tabulateCard_102⟩
theorem v_Model_tabulateCard : Cond.instanceMethod y_Model_tabulateCard ∈ nm_Ts ∧ Cond.selects y_Model_tabulateCard.cls y_Model_tabulateCard y_Model_tabulateCard ∈ nm_Ts ∧ Cond.initialized y_Model_tabulateCard.cls ∈ nm_Ts ∧ Cond.code y_Model_tabulateCard b_Model_tabulateCard 5 none ∈ nm_Ts ∧ mz_cl1 y_Model_tabulateCard 3 := ⟨nm_t5 103 rfl rfl, nm_s 45 rfl rfl, nm_t1 12 rfl rfl, nm_t5 104 rfl rfl, by decide +kernel⟩
def y_Model_total : MethodName := ⟨"CardOfficeModel", "total", "(II)V"⟩
abbrev b_Model_total : ByteArray := prog_14_method_52_code
def r_Model_total (c s : Nat) : Room := { frames := 2, cells := c, slots := s, locals := 52 }
theorem d_Model_total_0 : decode b_Model_total 0 = .ok (.aload_n 0, 1) := by decide +kernel
theorem d_Model_total_1 : decode b_Model_total 1 = .ok (.iload_n 1, 1) := by decide +kernel
theorem d_Model_total_2 : decode b_Model_total 2 = .ok (.iload_n 2, 1) := by decide +kernel
theorem d_Model_total_3 : decode b_Model_total 3 = .ok (.invokevirtual 191, 3) := by decide +kernel
theorem d_Model_total_6 : decode b_Model_total 6 = .ok (.ifCond .ne 4, 3) := by decide +kernel
theorem d_Model_total_9 : decode b_Model_total 9 = .ok (.return_, 1) := by decide +kernel
theorem d_Model_total_10 : decode b_Model_total 10 = .ok (.iconst 0, 1) := by decide +kernel
theorem d_Model_total_11 : decode b_Model_total 11 = .ok (.istore_n 3, 1) := by decide +kernel
theorem d_Model_total_12 : decode b_Model_total 12 = .ok (.iload_n 3, 1) := by decide +kernel
theorem d_Model_total_13 : decode b_Model_total 13 = .ok (.bipush 24, 2) := by decide +kernel
theorem d_Model_total_15 : decode b_Model_total 15 = .ok (.if_icmp .ge 21, 3) := by decide +kernel
theorem d_Model_total_18 : decode b_Model_total 18 = .ok (.aload_n 0, 1) := by decide +kernel
theorem d_Model_total_19 : decode b_Model_total 19 = .ok (.iload_n 3, 1) := by decide +kernel
theorem d_Model_total_20 : decode b_Model_total 20 = .ok (.aload_n 0, 1) := by decide +kernel
theorem d_Model_total_21 : decode b_Model_total 21 = .ok (.iload_n 1, 1) := by decide +kernel
theorem d_Model_total_22 : decode b_Model_total 22 = .ok (.iload_n 2, 1) := by decide +kernel
theorem d_Model_total_23 : decode b_Model_total 23 = .ok (.iload_n 3, 1) := by decide +kernel
theorem d_Model_total_24 : decode b_Model_total 24 = .ok (.invokevirtual 185, 3) := by decide +kernel
theorem d_Model_total_27 : decode b_Model_total 27 = .ok (.invokevirtual 194, 3) := by decide +kernel
theorem d_Model_total_30 : decode b_Model_total 30 = .ok (.iinc 3 1, 3) := by decide +kernel
theorem d_Model_total_33 : decode b_Model_total 33 = .ok (.goto (-21), 3) := by decide +kernel
theorem d_Model_total_36 : decode b_Model_total 36 = .ok (.aload_n 0, 1) := by decide +kernel
theorem d_Model_total_37 : decode b_Model_total 37 = .ok (.dup, 1) := by decide +kernel
theorem d_Model_total_38 : decode b_Model_total 38 = .ok (.getfield 188, 3) := by decide +kernel
theorem d_Model_total_41 : decode b_Model_total 41 = .ok (.iconst 1, 1) := by decide +kernel
theorem d_Model_total_42 : decode b_Model_total 42 = .ok (.iadd, 1) := by decide +kernel
theorem d_Model_total_43 : decode b_Model_total 43 = .ok (.putfield 188, 3) := by decide +kernel
theorem d_Model_total_46 : decode b_Model_total 46 = .ok (.iconst 0, 1) := by decide +kernel
theorem d_Model_total_47 : decode b_Model_total 47 = .ok (.istore_n 3, 1) := by decide +kernel
theorem d_Model_total_48 : decode b_Model_total 48 = .ok (.iload_n 3, 1) := by decide +kernel
theorem d_Model_total_49 : decode b_Model_total 49 = .ok (.iconst 4, 1) := by decide +kernel
theorem d_Model_total_50 : decode b_Model_total 50 = .ok (.if_icmp .ge 39, 3) := by decide +kernel
theorem d_Model_total_53 : decode b_Model_total 53 = .ok (.aload_n 0, 1) := by decide +kernel
theorem d_Model_total_54 : decode b_Model_total 54 = .ok (.getfield 39, 3) := by decide +kernel
theorem d_Model_total_57 : decode b_Model_total 57 = .ok (.iload_n 3, 1) := by decide +kernel
theorem d_Model_total_58 : decode b_Model_total 58 = .ok (.aload_n 0, 1) := by decide +kernel
theorem d_Model_total_59 : decode b_Model_total 59 = .ok (.getfield 36, 3) := by decide +kernel
theorem d_Model_total_62 : decode b_Model_total 62 = .ok (.iconst 4, 1) := by decide +kernel
theorem d_Model_total_63 : decode b_Model_total 63 = .ok (.iload_n 1, 1) := by decide +kernel
theorem d_Model_total_64 : decode b_Model_total 64 = .ok (.imul, 1) := by decide +kernel
theorem d_Model_total_65 : decode b_Model_total 65 = .ok (.iload_n 3, 1) := by decide +kernel
theorem d_Model_total_66 : decode b_Model_total 66 = .ok (.iadd, 1) := by decide +kernel
theorem d_Model_total_67 : decode b_Model_total 67 = .ok (.iaload, 1) := by decide +kernel
theorem d_Model_total_68 : decode b_Model_total 68 = .ok (.iload_n 2, 1) := by decide +kernel
theorem d_Model_total_69 : decode b_Model_total 69 = .ok (.if_icmp .ne 7, 3) := by decide +kernel
theorem d_Model_total_72 : decode b_Model_total 72 = .ok (.iconst 0, 1) := by decide +kernel
theorem d_Model_total_73 : decode b_Model_total 73 = .ok (.goto 9, 3) := by decide +kernel
theorem d_Model_total_76 : decode b_Model_total 76 = .ok (.aload_n 0, 1) := by decide +kernel
theorem d_Model_total_77 : decode b_Model_total 77 = .ok (.getfield 39, 3) := by decide +kernel
theorem d_Model_total_80 : decode b_Model_total 80 = .ok (.iload_n 3, 1) := by decide +kernel
theorem d_Model_total_81 : decode b_Model_total 81 = .ok (.iaload, 1) := by decide +kernel
theorem d_Model_total_82 : decode b_Model_total 82 = .ok (.iastore, 1) := by decide +kernel
theorem d_Model_total_83 : decode b_Model_total 83 = .ok (.iinc 3 1, 3) := by decide +kernel
theorem d_Model_total_86 : decode b_Model_total 86 = .ok (.goto (-38), 3) := by decide +kernel
theorem d_Model_total_89 : decode b_Model_total 89 = .ok (.return_, 1) := by decide +kernel
theorem d_Model_total : decode b_Model_total 0 = .ok (.aload_n 0, 1) ∧ decode b_Model_total 1 = .ok (.iload_n 1, 1) ∧ decode b_Model_total 2 = .ok (.iload_n 2, 1) ∧ decode b_Model_total 3 = .ok (.invokevirtual 191, 3) ∧ decode b_Model_total 6 = .ok (.ifCond .ne 4, 3) ∧ decode b_Model_total 9 = .ok (.return_, 1) ∧ decode b_Model_total 10 = .ok (.iconst 0, 1) ∧ decode b_Model_total 11 = .ok (.istore_n 3, 1) ∧ decode b_Model_total 12 = .ok (.iload_n 3, 1) ∧ decode b_Model_total 13 = .ok (.bipush 24, 2) ∧ decode b_Model_total 15 = .ok (.if_icmp .ge 21, 3) ∧ decode b_Model_total 18 = .ok (.aload_n 0, 1) ∧ decode b_Model_total 19 = .ok (.iload_n 3, 1) ∧ decode b_Model_total 20 = .ok (.aload_n 0, 1) ∧ decode b_Model_total 21 = .ok (.iload_n 1, 1) ∧ decode b_Model_total 22 = .ok (.iload_n 2, 1) ∧ decode b_Model_total 23 = .ok (.iload_n 3, 1) ∧ decode b_Model_total 24 = .ok (.invokevirtual 185, 3) ∧ decode b_Model_total 27 = .ok (.invokevirtual 194, 3) ∧ decode b_Model_total 30 = .ok (.iinc 3 1, 3) ∧ decode b_Model_total 33 = .ok (.goto (-21), 3) ∧ decode b_Model_total 36 = .ok (.aload_n 0, 1) ∧ decode b_Model_total 37 = .ok (.dup, 1) ∧ decode b_Model_total 38 = .ok (.getfield 188, 3) ∧ decode b_Model_total 41 = .ok (.iconst 1, 1) ∧ decode b_Model_total 42 = .ok (.iadd, 1) ∧ decode b_Model_total 43 = .ok (.putfield 188, 3) ∧ decode b_Model_total 46 = .ok (.iconst 0, 1) ∧ decode b_Model_total 47 = .ok (.istore_n 3, 1) ∧ decode b_Model_total 48 = .ok (.iload_n 3, 1) ∧ decode b_Model_total 49 = .ok (.iconst 4, 1) ∧ decode b_Model_total 50 = .ok (.if_icmp .ge 39, 3) ∧ decode b_Model_total 53 = .ok (.aload_n 0, 1) ∧ decode b_Model_total 54 = .ok (.getfield 39, 3) ∧ decode b_Model_total 57 = .ok (.iload_n 3, 1) ∧ decode b_Model_total 58 = .ok (.aload_n 0, 1) ∧ decode b_Model_total 59 = .ok (.getfield 36, 3) ∧ decode b_Model_total 62 = .ok (.iconst 4, 1) ∧ decode b_Model_total 63 = .ok (.iload_n 1, 1) ∧ decode b_Model_total 64 = .ok (.imul, 1) ∧ decode b_Model_total 65 = .ok (.iload_n 3, 1) ∧ decode b_Model_total 66 = .ok (.iadd, 1) ∧ decode b_Model_total 67 = .ok (.iaload, 1) ∧ decode b_Model_total 68 = .ok (.iload_n 2, 1) ∧ decode b_Model_total 69 = .ok (.if_icmp .ne 7, 3) ∧ decode b_Model_total 72 = .ok (.iconst 0, 1) ∧ decode b_Model_total 73 = .ok (.goto 9, 3) ∧ decode b_Model_total 76 = .ok (.aload_n 0, 1) ∧ decode b_Model_total 77 = .ok (.getfield 39, 3) ∧ decode b_Model_total 80 = .ok (.iload_n 3, 1) ∧ decode b_Model_total 81 = .ok (.iaload, 1) ∧ decode b_Model_total 82 = .ok (.iastore, 1) ∧ decode b_Model_total 83 = .ok (.iinc 3 1, 3) ∧ decode b_Model_total 86 = .ok (.goto (-38), 3) ∧ decode b_Model_total 89 = .ok (.return_, 1) := ⟨d_Model_total_0, d_Model_total_1, d_Model_total_2, d_Model_total_3, d_Model_total_6, d_Model_total_9, d_Model_total_10, d_Model_total_11, d_Model_total_12, d_Model_total_13, d_Model_total_15, d_Model_total_18, d_Model_total_19, d_Model_total_20, d_Model_total_21, d_Model_total_22, d_Model_total_23, d_Model_total_24, d_Model_total_27, d_Model_total_30, d_Model_total_33, d_Model_total_36, d_Model_total_37, d_Model_total_38, d_Model_total_41, d_Model_total_42, d_Model_total_43, d_Model_total_46, d_Model_total_47, d_Model_total_48, d_Model_total_49, d_Model_total_50, d_Model_total_53, d_Model_total_54, d_Model_total_57, d_Model_total_58, d_Model_total_59, d_Model_total_62, d_Model_total_63, d_Model_total_64, d_Model_total_65, d_Model_total_66, d_Model_total_67, d_Model_total_68, d_Model_total_69, d_Model_total_72, d_Model_total_73, d_Model_total_76, d_Model_total_77, d_Model_total_80, d_Model_total_81, d_Model_total_82, d_Model_total_83, d_Model_total_86, d_Model_total_89⟩
theorem v_Model_total : Cond.instanceMethod y_Model_total ∈ nm_Ts ∧ Cond.selects y_Model_total.cls y_Model_total y_Model_total ∈ nm_Ts ∧ Cond.initialized y_Model_total.cls ∈ nm_Ts ∧ Cond.code y_Model_total b_Model_total 4 none ∈ nm_Ts ∧ mz_cl1 y_Model_total 2 := ⟨nm_t5 107 rfl rfl, nm_s 46 rfl rfl, nm_t1 12 rfl rfl, nm_t5 108 rfl rfl, by decide +kernel⟩
def y_Model_print : MethodName := ⟨"CardOfficeModel", "print", "(II)V"⟩
abbrev b_Model_print : ByteArray := prog_14_method_51_code
def r_Model_print (c s : Nat) : Room := { frames := 0, cells := c, slots := s, locals := 0 }
theorem d_Model_print_0 : decode b_Model_print 0 = .ok (.aload_n 0, 1) := by decide +kernel
theorem d_Model_print_1 : decode b_Model_print 1 = .ok (.getfield 45, 3) := by decide +kernel
theorem d_Model_print_4 : decode b_Model_print 4 = .ok (.bipush 24, 2) := by decide +kernel
theorem d_Model_print_6 : decode b_Model_print 6 = .ok (.aload_n 0, 1) := by decide +kernel
theorem d_Model_print_7 : decode b_Model_print 7 = .ok (.getfield 188, 3) := by decide +kernel
theorem d_Model_print_10 : decode b_Model_print 10 = .ok (.imul, 1) := by decide +kernel
theorem d_Model_print_11 : decode b_Model_print 11 = .ok (.iload_n 1, 1) := by decide +kernel
theorem d_Model_print_12 : decode b_Model_print 12 = .ok (.iadd, 1) := by decide +kernel
theorem d_Model_print_13 : decode b_Model_print 13 = .ok (.iload_n 2, 1) := by decide +kernel
theorem d_Model_print_14 : decode b_Model_print 14 = .ok (.ifCond .ge 8, 3) := by decide +kernel
theorem d_Model_print_17 : decode b_Model_print 17 = .ok (.bipush 32, 2) := by decide +kernel
theorem d_Model_print_19 : decode b_Model_print 19 = .ok (.goto 4, 3) := by decide +kernel
theorem d_Model_print_22 : decode b_Model_print 22 = .ok (.iload_n 2, 1) := by decide +kernel
theorem d_Model_print_23 : decode b_Model_print 23 = .ok (.i2b, 1) := by decide +kernel
theorem d_Model_print_24 : decode b_Model_print 24 = .ok (.bastore, 1) := by decide +kernel
theorem d_Model_print_25 : decode b_Model_print 25 = .ok (.return_, 1) := by decide +kernel
theorem d_Model_print : decode b_Model_print 0 = .ok (.aload_n 0, 1) ∧ decode b_Model_print 1 = .ok (.getfield 45, 3) ∧ decode b_Model_print 4 = .ok (.bipush 24, 2) ∧ decode b_Model_print 6 = .ok (.aload_n 0, 1) ∧ decode b_Model_print 7 = .ok (.getfield 188, 3) ∧ decode b_Model_print 10 = .ok (.imul, 1) ∧ decode b_Model_print 11 = .ok (.iload_n 1, 1) ∧ decode b_Model_print 12 = .ok (.iadd, 1) ∧ decode b_Model_print 13 = .ok (.iload_n 2, 1) ∧ decode b_Model_print 14 = .ok (.ifCond .ge 8, 3) ∧ decode b_Model_print 17 = .ok (.bipush 32, 2) ∧ decode b_Model_print 19 = .ok (.goto 4, 3) ∧ decode b_Model_print 22 = .ok (.iload_n 2, 1) ∧ decode b_Model_print 23 = .ok (.i2b, 1) ∧ decode b_Model_print 24 = .ok (.bastore, 1) ∧ decode b_Model_print 25 = .ok (.return_, 1) := ⟨d_Model_print_0, d_Model_print_1, d_Model_print_4, d_Model_print_6, d_Model_print_7, d_Model_print_10, d_Model_print_11, d_Model_print_12, d_Model_print_13, d_Model_print_14, d_Model_print_17, d_Model_print_19, d_Model_print_22, d_Model_print_23, d_Model_print_24, d_Model_print_25⟩
theorem v_Model_print : Cond.instanceMethod y_Model_print ∈ nm_Ts ∧ Cond.selects y_Model_print.cls y_Model_print y_Model_print ∈ nm_Ts ∧ Cond.initialized y_Model_print.cls ∈ nm_Ts ∧ Cond.code y_Model_print b_Model_print 3 none ∈ nm_Ts ∧ mz_cl1 y_Model_print 2 := ⟨nm_t5 111 rfl rfl, nm_s 47 rfl rfl, nm_t1 12 rfl rfl, nm_t5 112 rfl rfl, by decide +kernel⟩
def y_Model_faultOfEnd : MethodName := ⟨"CardOfficeModel", "faultOfEnd", "(I)I"⟩
abbrev b_Model_faultOfEnd : ByteArray := prog_14_method_56_code
def r_Model_faultOfEnd (c s : Nat) : Room := { frames := 3, cells := c, slots := s, locals := 76 }
theorem d_Model_faultOfEnd_0 : decode b_Model_faultOfEnd 0 = .ok (.iconst 0, 1) := by decide +kernel
theorem d_Model_faultOfEnd_1 : decode b_Model_faultOfEnd 1 = .ok (.istore_n 2, 1) := by decide +kernel
theorem d_Model_faultOfEnd_2 : decode b_Model_faultOfEnd 2 = .ok (.iconst 0, 1) := by decide +kernel
theorem d_Model_faultOfEnd_3 : decode b_Model_faultOfEnd 3 = .ok (.istore_n 3, 1) := by decide +kernel
theorem d_Model_faultOfEnd_4 : decode b_Model_faultOfEnd 4 = .ok (.iconst 0, 1) := by decide +kernel
theorem d_Model_faultOfEnd_5 : decode b_Model_faultOfEnd 5 = .ok (.istore 4, 2) := by decide +kernel
theorem d_Model_faultOfEnd_7 : decode b_Model_faultOfEnd 7 = .ok (.iload 4, 2) := by decide +kernel
theorem d_Model_faultOfEnd_9 : decode b_Model_faultOfEnd 9 = .ok (.iconst 4, 1) := by decide +kernel
theorem d_Model_faultOfEnd_10 : decode b_Model_faultOfEnd 10 = .ok (.if_icmp .ge 47, 3) := by decide +kernel
theorem d_Model_faultOfEnd_13 : decode b_Model_faultOfEnd 13 = .ok (.iload_n 2, 1) := by decide +kernel
theorem d_Model_faultOfEnd_14 : decode b_Model_faultOfEnd 14 = .ok (.ifCond .ne 13, 3) := by decide +kernel
theorem d_Model_faultOfEnd_17 : decode b_Model_faultOfEnd 17 = .ok (.aload_n 0, 1) := by decide +kernel
theorem d_Model_faultOfEnd_18 : decode b_Model_faultOfEnd 18 = .ok (.iload_n 1, 1) := by decide +kernel
theorem d_Model_faultOfEnd_19 : decode b_Model_faultOfEnd 19 = .ok (.iload 4, 2) := by decide +kernel
theorem d_Model_faultOfEnd_21 : decode b_Model_faultOfEnd 21 = .ok (.invokevirtual 203, 3) := by decide +kernel
theorem d_Model_faultOfEnd_24 : decode b_Model_faultOfEnd 24 = .ok (.ifCond .eq 7, 3) := by decide +kernel
theorem d_Model_faultOfEnd_27 : decode b_Model_faultOfEnd 27 = .ok (.iconst 1, 1) := by decide +kernel
theorem d_Model_faultOfEnd_28 : decode b_Model_faultOfEnd 28 = .ok (.goto 4, 3) := by decide +kernel
theorem d_Model_faultOfEnd_31 : decode b_Model_faultOfEnd 31 = .ok (.iconst 0, 1) := by decide +kernel
theorem d_Model_faultOfEnd_32 : decode b_Model_faultOfEnd 32 = .ok (.istore_n 2, 1) := by decide +kernel
theorem d_Model_faultOfEnd_33 : decode b_Model_faultOfEnd 33 = .ok (.iload_n 3, 1) := by decide +kernel
theorem d_Model_faultOfEnd_34 : decode b_Model_faultOfEnd 34 = .ok (.aload_n 0, 1) := by decide +kernel
theorem d_Model_faultOfEnd_35 : decode b_Model_faultOfEnd 35 = .ok (.iload_n 1, 1) := by decide +kernel
theorem d_Model_faultOfEnd_36 : decode b_Model_faultOfEnd 36 = .ok (.iload 4, 2) := by decide +kernel
theorem d_Model_faultOfEnd_38 : decode b_Model_faultOfEnd 38 = .ok (.invokevirtual 191, 3) := by decide +kernel
theorem d_Model_faultOfEnd_41 : decode b_Model_faultOfEnd 41 = .ok (.ifCond .eq 7, 3) := by decide +kernel
theorem d_Model_faultOfEnd_44 : decode b_Model_faultOfEnd 44 = .ok (.iconst 1, 1) := by decide +kernel
theorem d_Model_faultOfEnd_45 : decode b_Model_faultOfEnd 45 = .ok (.goto 4, 3) := by decide +kernel
theorem d_Model_faultOfEnd_48 : decode b_Model_faultOfEnd 48 = .ok (.iconst 0, 1) := by decide +kernel
theorem d_Model_faultOfEnd_49 : decode b_Model_faultOfEnd 49 = .ok (.iadd, 1) := by decide +kernel
theorem d_Model_faultOfEnd_50 : decode b_Model_faultOfEnd 50 = .ok (.istore_n 3, 1) := by decide +kernel
theorem d_Model_faultOfEnd_51 : decode b_Model_faultOfEnd 51 = .ok (.iinc 4 1, 3) := by decide +kernel
theorem d_Model_faultOfEnd_54 : decode b_Model_faultOfEnd 54 = .ok (.goto (-47), 3) := by decide +kernel
theorem d_Model_faultOfEnd_57 : decode b_Model_faultOfEnd 57 = .ok (.iload_n 2, 1) := by decide +kernel
theorem d_Model_faultOfEnd_58 : decode b_Model_faultOfEnd 58 = .ok (.ifCond .eq 7, 3) := by decide +kernel
theorem d_Model_faultOfEnd_61 : decode b_Model_faultOfEnd 61 = .ok (.iconst 2, 1) := by decide +kernel
theorem d_Model_faultOfEnd_62 : decode b_Model_faultOfEnd 62 = .ok (.goto 19, 3) := by decide +kernel
theorem d_Model_faultOfEnd_65 : decode b_Model_faultOfEnd 65 = .ok (.aload_n 0, 1) := by decide +kernel
theorem d_Model_faultOfEnd_66 : decode b_Model_faultOfEnd 66 = .ok (.getfield 188, 3) := by decide +kernel
theorem d_Model_faultOfEnd_69 : decode b_Model_faultOfEnd 69 = .ok (.iload_n 3, 1) := by decide +kernel
theorem d_Model_faultOfEnd_70 : decode b_Model_faultOfEnd 70 = .ok (.iadd, 1) := by decide +kernel
theorem d_Model_faultOfEnd_71 : decode b_Model_faultOfEnd 71 = .ok (.bipush 100, 2) := by decide +kernel
theorem d_Model_faultOfEnd_73 : decode b_Model_faultOfEnd 73 = .ok (.if_icmp .le 7, 3) := by decide +kernel
theorem d_Model_faultOfEnd_76 : decode b_Model_faultOfEnd 76 = .ok (.iconst 4, 1) := by decide +kernel
theorem d_Model_faultOfEnd_77 : decode b_Model_faultOfEnd 77 = .ok (.goto 4, 3) := by decide +kernel
theorem d_Model_faultOfEnd_80 : decode b_Model_faultOfEnd 80 = .ok (.iconst 0, 1) := by decide +kernel
theorem d_Model_faultOfEnd_81 : decode b_Model_faultOfEnd 81 = .ok (.ireturn, 1) := by decide +kernel
theorem d_Model_faultOfEnd : decode b_Model_faultOfEnd 0 = .ok (.iconst 0, 1) ∧ decode b_Model_faultOfEnd 1 = .ok (.istore_n 2, 1) ∧ decode b_Model_faultOfEnd 2 = .ok (.iconst 0, 1) ∧ decode b_Model_faultOfEnd 3 = .ok (.istore_n 3, 1) ∧ decode b_Model_faultOfEnd 4 = .ok (.iconst 0, 1) ∧ decode b_Model_faultOfEnd 5 = .ok (.istore 4, 2) ∧ decode b_Model_faultOfEnd 7 = .ok (.iload 4, 2) ∧ decode b_Model_faultOfEnd 9 = .ok (.iconst 4, 1) ∧ decode b_Model_faultOfEnd 10 = .ok (.if_icmp .ge 47, 3) ∧ decode b_Model_faultOfEnd 13 = .ok (.iload_n 2, 1) ∧ decode b_Model_faultOfEnd 14 = .ok (.ifCond .ne 13, 3) ∧ decode b_Model_faultOfEnd 17 = .ok (.aload_n 0, 1) ∧ decode b_Model_faultOfEnd 18 = .ok (.iload_n 1, 1) ∧ decode b_Model_faultOfEnd 19 = .ok (.iload 4, 2) ∧ decode b_Model_faultOfEnd 21 = .ok (.invokevirtual 203, 3) ∧ decode b_Model_faultOfEnd 24 = .ok (.ifCond .eq 7, 3) ∧ decode b_Model_faultOfEnd 27 = .ok (.iconst 1, 1) ∧ decode b_Model_faultOfEnd 28 = .ok (.goto 4, 3) ∧ decode b_Model_faultOfEnd 31 = .ok (.iconst 0, 1) ∧ decode b_Model_faultOfEnd 32 = .ok (.istore_n 2, 1) ∧ decode b_Model_faultOfEnd 33 = .ok (.iload_n 3, 1) ∧ decode b_Model_faultOfEnd 34 = .ok (.aload_n 0, 1) ∧ decode b_Model_faultOfEnd 35 = .ok (.iload_n 1, 1) ∧ decode b_Model_faultOfEnd 36 = .ok (.iload 4, 2) ∧ decode b_Model_faultOfEnd 38 = .ok (.invokevirtual 191, 3) ∧ decode b_Model_faultOfEnd 41 = .ok (.ifCond .eq 7, 3) ∧ decode b_Model_faultOfEnd 44 = .ok (.iconst 1, 1) ∧ decode b_Model_faultOfEnd 45 = .ok (.goto 4, 3) ∧ decode b_Model_faultOfEnd 48 = .ok (.iconst 0, 1) ∧ decode b_Model_faultOfEnd 49 = .ok (.iadd, 1) ∧ decode b_Model_faultOfEnd 50 = .ok (.istore_n 3, 1) ∧ decode b_Model_faultOfEnd 51 = .ok (.iinc 4 1, 3) ∧ decode b_Model_faultOfEnd 54 = .ok (.goto (-47), 3) ∧ decode b_Model_faultOfEnd 57 = .ok (.iload_n 2, 1) ∧ decode b_Model_faultOfEnd 58 = .ok (.ifCond .eq 7, 3) ∧ decode b_Model_faultOfEnd 61 = .ok (.iconst 2, 1) ∧ decode b_Model_faultOfEnd 62 = .ok (.goto 19, 3) ∧ decode b_Model_faultOfEnd 65 = .ok (.aload_n 0, 1) ∧ decode b_Model_faultOfEnd 66 = .ok (.getfield 188, 3) ∧ decode b_Model_faultOfEnd 69 = .ok (.iload_n 3, 1) ∧ decode b_Model_faultOfEnd 70 = .ok (.iadd, 1) ∧ decode b_Model_faultOfEnd 71 = .ok (.bipush 100, 2) ∧ decode b_Model_faultOfEnd 73 = .ok (.if_icmp .le 7, 3) ∧ decode b_Model_faultOfEnd 76 = .ok (.iconst 4, 1) ∧ decode b_Model_faultOfEnd 77 = .ok (.goto 4, 3) ∧ decode b_Model_faultOfEnd 80 = .ok (.iconst 0, 1) ∧ decode b_Model_faultOfEnd 81 = .ok (.ireturn, 1) := ⟨d_Model_faultOfEnd_0, d_Model_faultOfEnd_1, d_Model_faultOfEnd_2, d_Model_faultOfEnd_3, d_Model_faultOfEnd_4, d_Model_faultOfEnd_5, d_Model_faultOfEnd_7, d_Model_faultOfEnd_9, d_Model_faultOfEnd_10, d_Model_faultOfEnd_13, d_Model_faultOfEnd_14, d_Model_faultOfEnd_17, d_Model_faultOfEnd_18, d_Model_faultOfEnd_19, d_Model_faultOfEnd_21, d_Model_faultOfEnd_24, d_Model_faultOfEnd_27, d_Model_faultOfEnd_28, d_Model_faultOfEnd_31, d_Model_faultOfEnd_32, d_Model_faultOfEnd_33, d_Model_faultOfEnd_34, d_Model_faultOfEnd_35, d_Model_faultOfEnd_36, d_Model_faultOfEnd_38, d_Model_faultOfEnd_41, d_Model_faultOfEnd_44, d_Model_faultOfEnd_45, d_Model_faultOfEnd_48, d_Model_faultOfEnd_49, d_Model_faultOfEnd_50, d_Model_faultOfEnd_51, d_Model_faultOfEnd_54, d_Model_faultOfEnd_57, d_Model_faultOfEnd_58, d_Model_faultOfEnd_61, d_Model_faultOfEnd_62, d_Model_faultOfEnd_65, d_Model_faultOfEnd_66, d_Model_faultOfEnd_69, d_Model_faultOfEnd_70, d_Model_faultOfEnd_71, d_Model_faultOfEnd_73, d_Model_faultOfEnd_76, d_Model_faultOfEnd_77, d_Model_faultOfEnd_80, d_Model_faultOfEnd_81⟩
theorem v_Model_faultOfEnd : Cond.instanceMethod y_Model_faultOfEnd ∈ nm_Ts ∧ Cond.selects y_Model_faultOfEnd.cls y_Model_faultOfEnd y_Model_faultOfEnd ∈ nm_Ts ∧ Cond.initialized y_Model_faultOfEnd.cls ∈ nm_Ts ∧ Cond.code y_Model_faultOfEnd b_Model_faultOfEnd 5 (some .int) ∈ nm_Ts ∧ mz_cl1 y_Model_faultOfEnd 1 := ⟨nm_t5 115 rfl rfl, nm_s 48 rfl rfl, nm_t1 12 rfl rfl, nm_t5 116 rfl rfl, by decide +kernel⟩
def y_Model_cut : MethodName := ⟨"CardOfficeModel", "cut", "(III)Z"⟩
abbrev b_Model_cut : ByteArray := prog_14_method_58_code
def r_Model_cut (c s : Nat) : Room := { frames := 1, cells := c, slots := s, locals := 22 }
theorem d_Model_cut_0 : decode b_Model_cut 0 = .ok (.aload_n 0, 1) := by decide +kernel
theorem d_Model_cut_1 : decode b_Model_cut 1 = .ok (.iconst 0, 1) := by decide +kernel
theorem d_Model_cut_2 : decode b_Model_cut 2 = .ok (.putfield 52, 3) := by decide +kernel
theorem d_Model_cut_5 : decode b_Model_cut 5 = .ok (.iload_n 1, 1) := by decide +kernel
theorem d_Model_cut_6 : decode b_Model_cut 6 = .ok (.invokestatic 65, 3) := by decide +kernel
theorem d_Model_cut_9 : decode b_Model_cut 9 = .ok (.ifCond .eq 29, 3) := by decide +kernel
theorem d_Model_cut_12 : decode b_Model_cut 12 = .ok (.iload_n 3, 1) := by decide +kernel
theorem d_Model_cut_13 : decode b_Model_cut 13 = .ok (.invokestatic 65, 3) := by decide +kernel
theorem d_Model_cut_16 : decode b_Model_cut 16 = .ok (.ifCond .eq 22, 3) := by decide +kernel
theorem d_Model_cut_19 : decode b_Model_cut 19 = .ok (.iload_n 1, 1) := by decide +kernel
theorem d_Model_cut_20 : decode b_Model_cut 20 = .ok (.iload_n 3, 1) := by decide +kernel
theorem d_Model_cut_21 : decode b_Model_cut 21 = .ok (.if_icmp .eq 17, 3) := by decide +kernel
theorem d_Model_cut_24 : decode b_Model_cut 24 = .ok (.iload_n 2, 1) := by decide +kernel
theorem d_Model_cut_25 : decode b_Model_cut 25 = .ok (.ifCond .lt 13, 3) := by decide +kernel
theorem d_Model_cut_28 : decode b_Model_cut 28 = .ok (.iload_n 2, 1) := by decide +kernel
theorem d_Model_cut_29 : decode b_Model_cut 29 = .ok (.aload_n 0, 1) := by decide +kernel
theorem d_Model_cut_30 : decode b_Model_cut 30 = .ok (.getfield 17, 3) := by decide +kernel
theorem d_Model_cut_33 : decode b_Model_cut 33 = .ok (.iload_n 1, 1) := by decide +kernel
theorem d_Model_cut_34 : decode b_Model_cut 34 = .ok (.iaload, 1) := by decide +kernel
theorem d_Model_cut_35 : decode b_Model_cut 35 = .ok (.if_icmp .le 5, 3) := by decide +kernel
theorem d_Model_cut_38 : decode b_Model_cut 38 = .ok (.iconst 0, 1) := by decide +kernel
theorem d_Model_cut_39 : decode b_Model_cut 39 = .ok (.ireturn, 1) := by decide +kernel
theorem d_Model_cut_40 : decode b_Model_cut 40 = .ok (.iconst 0, 1) := by decide +kernel
theorem d_Model_cut_41 : decode b_Model_cut 41 = .ok (.istore 4, 2) := by decide +kernel
theorem d_Model_cut_43 : decode b_Model_cut 43 = .ok (.iload 4, 2) := by decide +kernel
theorem d_Model_cut_45 : decode b_Model_cut 45 = .ok (.iload_n 2, 1) := by decide +kernel
theorem d_Model_cut_46 : decode b_Model_cut 46 = .ok (.if_icmp .ge 21, 3) := by decide +kernel
theorem d_Model_cut_49 : decode b_Model_cut 49 = .ok (.aload_n 0, 1) := by decide +kernel
theorem d_Model_cut_50 : decode b_Model_cut 50 = .ok (.iload_n 3, 1) := by decide +kernel
theorem d_Model_cut_51 : decode b_Model_cut 51 = .ok (.aload_n 0, 1) := by decide +kernel
theorem d_Model_cut_52 : decode b_Model_cut 52 = .ok (.iload_n 1, 1) := by decide +kernel
theorem d_Model_cut_53 : decode b_Model_cut 53 = .ok (.iload 4, 2) := by decide +kernel
theorem d_Model_cut_55 : decode b_Model_cut 55 = .ok (.invokevirtual 98, 3) := by decide +kernel
theorem d_Model_cut_58 : decode b_Model_cut 58 = .ok (.invokevirtual 78, 3) := by decide +kernel
theorem d_Model_cut_61 : decode b_Model_cut 61 = .ok (.iinc 4 1, 3) := by decide +kernel
theorem d_Model_cut_64 : decode b_Model_cut 64 = .ok (.goto (-21), 3) := by decide +kernel
theorem d_Model_cut_67 : decode b_Model_cut 67 = .ok (.aload_n 0, 1) := by decide +kernel
theorem d_Model_cut_68 : decode b_Model_cut 68 = .ok (.getfield 17, 3) := by decide +kernel
theorem d_Model_cut_71 : decode b_Model_cut 71 = .ok (.iload_n 1, 1) := by decide +kernel
theorem d_Model_cut_72 : decode b_Model_cut 72 = .ok (.dup2, 1) := by decide +kernel
theorem d_Model_cut_73 : decode b_Model_cut 73 = .ok (.iaload, 1) := by decide +kernel
theorem d_Model_cut_74 : decode b_Model_cut 74 = .ok (.iload_n 2, 1) := by decide +kernel
theorem d_Model_cut_75 : decode b_Model_cut 75 = .ok (.isub, 1) := by decide +kernel
theorem d_Model_cut_76 : decode b_Model_cut 76 = .ok (.iastore, 1) := by decide +kernel
theorem d_Model_cut_77 : decode b_Model_cut 77 = .ok (.iconst 0, 1) := by decide +kernel
theorem d_Model_cut_78 : decode b_Model_cut 78 = .ok (.istore 4, 2) := by decide +kernel
theorem d_Model_cut_80 : decode b_Model_cut 80 = .ok (.iload 4, 2) := by decide +kernel
theorem d_Model_cut_82 : decode b_Model_cut 82 = .ok (.aload_n 0, 1) := by decide +kernel
theorem d_Model_cut_83 : decode b_Model_cut 83 = .ok (.getfield 17, 3) := by decide +kernel
theorem d_Model_cut_86 : decode b_Model_cut 86 = .ok (.iload_n 1, 1) := by decide +kernel
theorem d_Model_cut_87 : decode b_Model_cut 87 = .ok (.iaload, 1) := by decide +kernel
theorem d_Model_cut_88 : decode b_Model_cut 88 = .ok (.if_icmp .ge 37, 3) := by decide +kernel
theorem d_Model_cut_91 : decode b_Model_cut 91 = .ok (.aload_n 0, 1) := by decide +kernel
theorem d_Model_cut_92 : decode b_Model_cut 92 = .ok (.getfield 13, 3) := by decide +kernel
theorem d_Model_cut_95 : decode b_Model_cut 95 = .ok (.sipush 200, 3) := by decide +kernel
theorem d_Model_cut_98 : decode b_Model_cut 98 = .ok (.iload_n 1, 1) := by decide +kernel
theorem d_Model_cut_99 : decode b_Model_cut 99 = .ok (.imul, 1) := by decide +kernel
theorem d_Model_cut_100 : decode b_Model_cut 100 = .ok (.iload 4, 2) := by decide +kernel
theorem d_Model_cut_102 : decode b_Model_cut 102 = .ok (.iadd, 1) := by decide +kernel
theorem d_Model_cut_103 : decode b_Model_cut 103 = .ok (.aload_n 0, 1) := by decide +kernel
theorem d_Model_cut_104 : decode b_Model_cut 104 = .ok (.getfield 13, 3) := by decide +kernel
theorem d_Model_cut_107 : decode b_Model_cut 107 = .ok (.sipush 200, 3) := by decide +kernel
theorem d_Model_cut_110 : decode b_Model_cut 110 = .ok (.iload_n 1, 1) := by decide +kernel
theorem d_Model_cut_111 : decode b_Model_cut 111 = .ok (.imul, 1) := by decide +kernel
theorem d_Model_cut_112 : decode b_Model_cut 112 = .ok (.iload 4, 2) := by decide +kernel
theorem d_Model_cut_114 : decode b_Model_cut 114 = .ok (.iadd, 1) := by decide +kernel
theorem d_Model_cut_115 : decode b_Model_cut 115 = .ok (.iload_n 2, 1) := by decide +kernel
theorem d_Model_cut_116 : decode b_Model_cut 116 = .ok (.iadd, 1) := by decide +kernel
theorem d_Model_cut_117 : decode b_Model_cut 117 = .ok (.saload, 1) := by decide +kernel
theorem d_Model_cut_118 : decode b_Model_cut 118 = .ok (.sastore, 1) := by decide +kernel
theorem d_Model_cut_119 : decode b_Model_cut 119 = .ok (.iinc 4 1, 3) := by decide +kernel
theorem d_Model_cut_122 : decode b_Model_cut 122 = .ok (.goto (-42), 3) := by decide +kernel
theorem d_Model_cut_125 : decode b_Model_cut 125 = .ok (.iconst 1, 1) := by decide +kernel
theorem d_Model_cut_126 : decode b_Model_cut 126 = .ok (.ireturn, 1) := by decide +kernel
theorem d_Model_cut : decode b_Model_cut 0 = .ok (.aload_n 0, 1) ∧ decode b_Model_cut 1 = .ok (.iconst 0, 1) ∧ decode b_Model_cut 2 = .ok (.putfield 52, 3) ∧ decode b_Model_cut 5 = .ok (.iload_n 1, 1) ∧ decode b_Model_cut 6 = .ok (.invokestatic 65, 3) ∧ decode b_Model_cut 9 = .ok (.ifCond .eq 29, 3) ∧ decode b_Model_cut 12 = .ok (.iload_n 3, 1) ∧ decode b_Model_cut 13 = .ok (.invokestatic 65, 3) ∧ decode b_Model_cut 16 = .ok (.ifCond .eq 22, 3) ∧ decode b_Model_cut 19 = .ok (.iload_n 1, 1) ∧ decode b_Model_cut 20 = .ok (.iload_n 3, 1) ∧ decode b_Model_cut 21 = .ok (.if_icmp .eq 17, 3) ∧ decode b_Model_cut 24 = .ok (.iload_n 2, 1) ∧ decode b_Model_cut 25 = .ok (.ifCond .lt 13, 3) ∧ decode b_Model_cut 28 = .ok (.iload_n 2, 1) ∧ decode b_Model_cut 29 = .ok (.aload_n 0, 1) ∧ decode b_Model_cut 30 = .ok (.getfield 17, 3) ∧ decode b_Model_cut 33 = .ok (.iload_n 1, 1) ∧ decode b_Model_cut 34 = .ok (.iaload, 1) ∧ decode b_Model_cut 35 = .ok (.if_icmp .le 5, 3) ∧ decode b_Model_cut 38 = .ok (.iconst 0, 1) ∧ decode b_Model_cut 39 = .ok (.ireturn, 1) ∧ decode b_Model_cut 40 = .ok (.iconst 0, 1) ∧ decode b_Model_cut 41 = .ok (.istore 4, 2) ∧ decode b_Model_cut 43 = .ok (.iload 4, 2) ∧ decode b_Model_cut 45 = .ok (.iload_n 2, 1) ∧ decode b_Model_cut 46 = .ok (.if_icmp .ge 21, 3) ∧ decode b_Model_cut 49 = .ok (.aload_n 0, 1) ∧ decode b_Model_cut 50 = .ok (.iload_n 3, 1) ∧ decode b_Model_cut 51 = .ok (.aload_n 0, 1) ∧ decode b_Model_cut 52 = .ok (.iload_n 1, 1) ∧ decode b_Model_cut 53 = .ok (.iload 4, 2) ∧ decode b_Model_cut 55 = .ok (.invokevirtual 98, 3) ∧ decode b_Model_cut 58 = .ok (.invokevirtual 78, 3) ∧ decode b_Model_cut 61 = .ok (.iinc 4 1, 3) ∧ decode b_Model_cut 64 = .ok (.goto (-21), 3) ∧ decode b_Model_cut 67 = .ok (.aload_n 0, 1) ∧ decode b_Model_cut 68 = .ok (.getfield 17, 3) ∧ decode b_Model_cut 71 = .ok (.iload_n 1, 1) ∧ decode b_Model_cut 72 = .ok (.dup2, 1) ∧ decode b_Model_cut 73 = .ok (.iaload, 1) ∧ decode b_Model_cut 74 = .ok (.iload_n 2, 1) ∧ decode b_Model_cut 75 = .ok (.isub, 1) ∧ decode b_Model_cut 76 = .ok (.iastore, 1) ∧ decode b_Model_cut 77 = .ok (.iconst 0, 1) ∧ decode b_Model_cut 78 = .ok (.istore 4, 2) ∧ decode b_Model_cut 80 = .ok (.iload 4, 2) ∧ decode b_Model_cut 82 = .ok (.aload_n 0, 1) ∧ decode b_Model_cut 83 = .ok (.getfield 17, 3) ∧ decode b_Model_cut 86 = .ok (.iload_n 1, 1) ∧ decode b_Model_cut 87 = .ok (.iaload, 1) ∧ decode b_Model_cut 88 = .ok (.if_icmp .ge 37, 3) ∧ decode b_Model_cut 91 = .ok (.aload_n 0, 1) ∧ decode b_Model_cut 92 = .ok (.getfield 13, 3) ∧ decode b_Model_cut 95 = .ok (.sipush 200, 3) ∧ decode b_Model_cut 98 = .ok (.iload_n 1, 1) ∧ decode b_Model_cut 99 = .ok (.imul, 1) ∧ decode b_Model_cut 100 = .ok (.iload 4, 2) ∧ decode b_Model_cut 102 = .ok (.iadd, 1) ∧ decode b_Model_cut 103 = .ok (.aload_n 0, 1) ∧ decode b_Model_cut 104 = .ok (.getfield 13, 3) ∧ decode b_Model_cut 107 = .ok (.sipush 200, 3) ∧ decode b_Model_cut 110 = .ok (.iload_n 1, 1) ∧ decode b_Model_cut 111 = .ok (.imul, 1) ∧ decode b_Model_cut 112 = .ok (.iload 4, 2) ∧ decode b_Model_cut 114 = .ok (.iadd, 1) ∧ decode b_Model_cut 115 = .ok (.iload_n 2, 1) ∧ decode b_Model_cut 116 = .ok (.iadd, 1) ∧ decode b_Model_cut 117 = .ok (.saload, 1) ∧ decode b_Model_cut 118 = .ok (.sastore, 1) ∧ decode b_Model_cut 119 = .ok (.iinc 4 1, 3) ∧ decode b_Model_cut 122 = .ok (.goto (-42), 3) ∧ decode b_Model_cut 125 = .ok (.iconst 1, 1) ∧ decode b_Model_cut 126 = .ok (.ireturn, 1) := ⟨d_Model_cut_0, d_Model_cut_1, d_Model_cut_2, d_Model_cut_5, d_Model_cut_6, d_Model_cut_9, d_Model_cut_12, d_Model_cut_13, d_Model_cut_16, d_Model_cut_19, d_Model_cut_20, d_Model_cut_21, d_Model_cut_24, d_Model_cut_25, d_Model_cut_28, d_Model_cut_29, d_Model_cut_30, d_Model_cut_33, d_Model_cut_34, d_Model_cut_35, d_Model_cut_38, d_Model_cut_39, d_Model_cut_40, d_Model_cut_41, d_Model_cut_43, d_Model_cut_45, d_Model_cut_46, d_Model_cut_49, d_Model_cut_50, d_Model_cut_51, d_Model_cut_52, d_Model_cut_53, d_Model_cut_55, d_Model_cut_58, d_Model_cut_61, d_Model_cut_64, d_Model_cut_67, d_Model_cut_68, d_Model_cut_71, d_Model_cut_72, d_Model_cut_73, d_Model_cut_74, d_Model_cut_75, d_Model_cut_76, d_Model_cut_77, d_Model_cut_78, d_Model_cut_80, d_Model_cut_82, d_Model_cut_83, d_Model_cut_86, d_Model_cut_87, d_Model_cut_88, d_Model_cut_91, d_Model_cut_92, d_Model_cut_95, d_Model_cut_98, d_Model_cut_99, d_Model_cut_100, d_Model_cut_102, d_Model_cut_103, d_Model_cut_104, d_Model_cut_107, d_Model_cut_110, d_Model_cut_111, d_Model_cut_112, d_Model_cut_114, d_Model_cut_115, d_Model_cut_116, d_Model_cut_117, d_Model_cut_118, d_Model_cut_119, d_Model_cut_122, d_Model_cut_125, d_Model_cut_126⟩
theorem v_Model_cut : Cond.instanceMethod y_Model_cut ∈ nm_Ts ∧ Cond.selects y_Model_cut.cls y_Model_cut y_Model_cut ∈ nm_Ts ∧ Cond.initialized y_Model_cut.cls ∈ nm_Ts ∧ Cond.code y_Model_cut b_Model_cut 5 (some .boolean) ∈ nm_Ts ∧ mz_cl1 y_Model_cut 3 := ⟨nm_t5 118 rfl rfl, nm_t5 119 rfl rfl, nm_t1 12 rfl rfl, nm_t5 120 rfl rfl, by decide +kernel⟩
def y_Model_sign : MethodName := ⟨"CardOfficeModel", "sign", "(III)I"⟩
abbrev b_Model_sign : ByteArray := prog_14_method_59_code
def r_Model_sign (c s : Nat) : Room := { frames := 1, cells := c, slots := s, locals := 22 }
theorem d_Model_sign_0 : decode b_Model_sign 0 = .ok (.iload_n 1, 1) := by decide +kernel
theorem d_Model_sign_1 : decode b_Model_sign 1 = .ok (.invokestatic 65, 3) := by decide +kernel
theorem d_Model_sign_4 : decode b_Model_sign 4 = .ok (.ifCond .eq 18, 3) := by decide +kernel
theorem d_Model_sign_7 : decode b_Model_sign 7 = .ok (.iload_n 2, 1) := by decide +kernel
theorem d_Model_sign_8 : decode b_Model_sign 8 = .ok (.ifCond .lt 14, 3) := by decide +kernel
theorem d_Model_sign_11 : decode b_Model_sign 11 = .ok (.iload_n 3, 1) := by decide +kernel
theorem d_Model_sign_12 : decode b_Model_sign 12 = .ok (.invokestatic 108, 3) := by decide +kernel
theorem d_Model_sign_15 : decode b_Model_sign 15 = .ok (.ifCond .eq 7, 3) := by decide +kernel
theorem d_Model_sign_18 : decode b_Model_sign 18 = .ok (.iconst 1, 1) := by decide +kernel
theorem d_Model_sign_19 : decode b_Model_sign 19 = .ok (.goto 4, 3) := by decide +kernel
theorem d_Model_sign_22 : decode b_Model_sign 22 = .ok (.iconst 0, 1) := by decide +kernel
theorem d_Model_sign_23 : decode b_Model_sign 23 = .ok (.istore 4, 2) := by decide +kernel
theorem d_Model_sign_25 : decode b_Model_sign 25 = .ok (.aload_n 0, 1) := by decide +kernel
theorem d_Model_sign_26 : decode b_Model_sign 26 = .ok (.iload 4, 2) := by decide +kernel
theorem d_Model_sign_28 : decode b_Model_sign 28 = .ok (.ifCond .eq 26, 3) := by decide +kernel
theorem d_Model_sign_31 : decode b_Model_sign 31 = .ok (.iload_n 2, 1) := by decide +kernel
theorem d_Model_sign_32 : decode b_Model_sign 32 = .ok (.aload_n 0, 1) := by decide +kernel
theorem d_Model_sign_33 : decode b_Model_sign 33 = .ok (.getfield 17, 3) := by decide +kernel
theorem d_Model_sign_36 : decode b_Model_sign 36 = .ok (.iload 4, 2) := by decide +kernel
theorem d_Model_sign_38 : decode b_Model_sign 38 = .ok (.ifCond .eq 7, 3) := by decide +kernel
theorem d_Model_sign_41 : decode b_Model_sign 41 = .ok (.iload_n 1, 1) := by decide +kernel
theorem d_Model_sign_42 : decode b_Model_sign 42 = .ok (.goto 4, 3) := by decide +kernel
theorem d_Model_sign_45 : decode b_Model_sign 45 = .ok (.iconst 0, 1) := by decide +kernel
theorem d_Model_sign_46 : decode b_Model_sign 46 = .ok (.iaload, 1) := by decide +kernel
theorem d_Model_sign_47 : decode b_Model_sign 47 = .ok (.if_icmp .ge 7, 3) := by decide +kernel
theorem d_Model_sign_50 : decode b_Model_sign 50 = .ok (.iconst 0, 1) := by decide +kernel
theorem d_Model_sign_51 : decode b_Model_sign 51 = .ok (.goto 4, 3) := by decide +kernel
theorem d_Model_sign_54 : decode b_Model_sign 54 = .ok (.iconst 1, 1) := by decide +kernel
theorem d_Model_sign_55 : decode b_Model_sign 55 = .ok (.putfield 52, 3) := by decide +kernel
theorem d_Model_sign_58 : decode b_Model_sign 58 = .ok (.aload_n 0, 1) := by decide +kernel
theorem d_Model_sign_59 : decode b_Model_sign 59 = .ok (.getfield 52, 3) := by decide +kernel
theorem d_Model_sign_62 : decode b_Model_sign 62 = .ok (.ifCond .le 7, 3) := by decide +kernel
theorem d_Model_sign_65 : decode b_Model_sign 65 = .ok (.iconst 0, 1) := by decide +kernel
theorem d_Model_sign_66 : decode b_Model_sign 66 = .ok (.goto 14, 3) := by decide +kernel
theorem d_Model_sign_69 : decode b_Model_sign 69 = .ok (.aload_n 0, 1) := by decide +kernel
theorem d_Model_sign_70 : decode b_Model_sign 70 = .ok (.aload_n 0, 1) := by decide +kernel
theorem d_Model_sign_71 : decode b_Model_sign 71 = .ok (.iload_n 1, 1) := by decide +kernel
theorem d_Model_sign_72 : decode b_Model_sign 72 = .ok (.iload_n 2, 1) := by decide +kernel
theorem d_Model_sign_73 : decode b_Model_sign 73 = .ok (.invokevirtual 98, 3) := by decide +kernel
theorem d_Model_sign_76 : decode b_Model_sign 76 = .ok (.iload_n 3, 1) := by decide +kernel
theorem d_Model_sign_77 : decode b_Model_sign 77 = .ok (.invokevirtual 91, 3) := by decide +kernel
theorem d_Model_sign_80 : decode b_Model_sign 80 = .ok (.ireturn, 1) := by decide +kernel
theorem d_Model_sign : decode b_Model_sign 0 = .ok (.iload_n 1, 1) ∧ decode b_Model_sign 1 = .ok (.invokestatic 65, 3) ∧ decode b_Model_sign 4 = .ok (.ifCond .eq 18, 3) ∧ decode b_Model_sign 7 = .ok (.iload_n 2, 1) ∧ decode b_Model_sign 8 = .ok (.ifCond .lt 14, 3) ∧ decode b_Model_sign 11 = .ok (.iload_n 3, 1) ∧ decode b_Model_sign 12 = .ok (.invokestatic 108, 3) ∧ decode b_Model_sign 15 = .ok (.ifCond .eq 7, 3) ∧ decode b_Model_sign 18 = .ok (.iconst 1, 1) ∧ decode b_Model_sign 19 = .ok (.goto 4, 3) ∧ decode b_Model_sign 22 = .ok (.iconst 0, 1) ∧ decode b_Model_sign 23 = .ok (.istore 4, 2) ∧ decode b_Model_sign 25 = .ok (.aload_n 0, 1) ∧ decode b_Model_sign 26 = .ok (.iload 4, 2) ∧ decode b_Model_sign 28 = .ok (.ifCond .eq 26, 3) ∧ decode b_Model_sign 31 = .ok (.iload_n 2, 1) ∧ decode b_Model_sign 32 = .ok (.aload_n 0, 1) ∧ decode b_Model_sign 33 = .ok (.getfield 17, 3) ∧ decode b_Model_sign 36 = .ok (.iload 4, 2) ∧ decode b_Model_sign 38 = .ok (.ifCond .eq 7, 3) ∧ decode b_Model_sign 41 = .ok (.iload_n 1, 1) ∧ decode b_Model_sign 42 = .ok (.goto 4, 3) ∧ decode b_Model_sign 45 = .ok (.iconst 0, 1) ∧ decode b_Model_sign 46 = .ok (.iaload, 1) ∧ decode b_Model_sign 47 = .ok (.if_icmp .ge 7, 3) ∧ decode b_Model_sign 50 = .ok (.iconst 0, 1) ∧ decode b_Model_sign 51 = .ok (.goto 4, 3) ∧ decode b_Model_sign 54 = .ok (.iconst 1, 1) ∧ decode b_Model_sign 55 = .ok (.putfield 52, 3) ∧ decode b_Model_sign 58 = .ok (.aload_n 0, 1) ∧ decode b_Model_sign 59 = .ok (.getfield 52, 3) ∧ decode b_Model_sign 62 = .ok (.ifCond .le 7, 3) ∧ decode b_Model_sign 65 = .ok (.iconst 0, 1) ∧ decode b_Model_sign 66 = .ok (.goto 14, 3) ∧ decode b_Model_sign 69 = .ok (.aload_n 0, 1) ∧ decode b_Model_sign 70 = .ok (.aload_n 0, 1) ∧ decode b_Model_sign 71 = .ok (.iload_n 1, 1) ∧ decode b_Model_sign 72 = .ok (.iload_n 2, 1) ∧ decode b_Model_sign 73 = .ok (.invokevirtual 98, 3) ∧ decode b_Model_sign 76 = .ok (.iload_n 3, 1) ∧ decode b_Model_sign 77 = .ok (.invokevirtual 91, 3) ∧ decode b_Model_sign 80 = .ok (.ireturn, 1) := ⟨d_Model_sign_0, d_Model_sign_1, d_Model_sign_4, d_Model_sign_7, d_Model_sign_8, d_Model_sign_11, d_Model_sign_12, d_Model_sign_15, d_Model_sign_18, d_Model_sign_19, d_Model_sign_22, d_Model_sign_23, d_Model_sign_25, d_Model_sign_26, d_Model_sign_28, d_Model_sign_31, d_Model_sign_32, d_Model_sign_33, d_Model_sign_36, d_Model_sign_38, d_Model_sign_41, d_Model_sign_42, d_Model_sign_45, d_Model_sign_46, d_Model_sign_47, d_Model_sign_50, d_Model_sign_51, d_Model_sign_54, d_Model_sign_55, d_Model_sign_58, d_Model_sign_59, d_Model_sign_62, d_Model_sign_65, d_Model_sign_66, d_Model_sign_69, d_Model_sign_70, d_Model_sign_71, d_Model_sign_72, d_Model_sign_73, d_Model_sign_76, d_Model_sign_77, d_Model_sign_80⟩
theorem v_Model_sign : Cond.instanceMethod y_Model_sign ∈ nm_Ts ∧ Cond.selects y_Model_sign.cls y_Model_sign y_Model_sign ∈ nm_Ts ∧ Cond.initialized y_Model_sign.cls ∈ nm_Ts ∧ Cond.code y_Model_sign b_Model_sign 5 (some .int) ∈ nm_Ts ∧ mz_cl1 y_Model_sign 3 := ⟨nm_t5 122 rfl rfl, nm_t5 123 rfl rfl, nm_t1 12 rfl rfl, nm_t5 124 rfl rfl, by decide +kernel⟩
def y_Model_printed : MethodName := ⟨"CardOfficeModel", "printed", "(II)I"⟩
abbrev b_Model_printed : ByteArray := prog_14_method_60_code
def r_Model_printed (c s : Nat) : Room := { frames := 0, cells := c, slots := s, locals := 0 }
theorem d_Model_printed_0 : decode b_Model_printed 0 = .ok (.aload_n 0, 1) := by decide +kernel
theorem d_Model_printed_1 : decode b_Model_printed 1 = .ok (.iload_n 1, 1) := by decide +kernel
theorem d_Model_printed_2 : decode b_Model_printed 2 = .ok (.ifCond .lt 25, 3) := by decide +kernel
theorem d_Model_printed_5 : decode b_Model_printed 5 = .ok (.iload_n 1, 1) := by decide +kernel
theorem d_Model_printed_6 : decode b_Model_printed 6 = .ok (.aload_n 0, 1) := by decide +kernel
theorem d_Model_printed_7 : decode b_Model_printed 7 = .ok (.getfield 188, 3) := by decide +kernel
theorem d_Model_printed_10 : decode b_Model_printed 10 = .ok (.if_icmp .ge 17, 3) := by decide +kernel
theorem d_Model_printed_13 : decode b_Model_printed 13 = .ok (.iload_n 2, 1) := by decide +kernel
theorem d_Model_printed_14 : decode b_Model_printed 14 = .ok (.ifCond .lt 13, 3) := by decide +kernel
theorem d_Model_printed_17 : decode b_Model_printed 17 = .ok (.iload_n 2, 1) := by decide +kernel
theorem d_Model_printed_18 : decode b_Model_printed 18 = .ok (.bipush 24, 2) := by decide +kernel
theorem d_Model_printed_20 : decode b_Model_printed 20 = .ok (.if_icmp .ge 7, 3) := by decide +kernel
theorem d_Model_printed_23 : decode b_Model_printed 23 = .ok (.iconst 0, 1) := by decide +kernel
theorem d_Model_printed_24 : decode b_Model_printed 24 = .ok (.goto 4, 3) := by decide +kernel
theorem d_Model_printed_27 : decode b_Model_printed 27 = .ok (.iconst 1, 1) := by decide +kernel
theorem d_Model_printed_28 : decode b_Model_printed 28 = .ok (.putfield 52, 3) := by decide +kernel
theorem d_Model_printed_31 : decode b_Model_printed 31 = .ok (.aload_n 0, 1) := by decide +kernel
theorem d_Model_printed_32 : decode b_Model_printed 32 = .ok (.getfield 52, 3) := by decide +kernel
theorem d_Model_printed_35 : decode b_Model_printed 35 = .ok (.ifCond .le 7, 3) := by decide +kernel
theorem d_Model_printed_38 : decode b_Model_printed 38 = .ok (.iconst 0, 1) := by decide +kernel
theorem d_Model_printed_39 : decode b_Model_printed 39 = .ok (.goto 14, 3) := by decide +kernel
theorem d_Model_printed_42 : decode b_Model_printed 42 = .ok (.aload_n 0, 1) := by decide +kernel
theorem d_Model_printed_43 : decode b_Model_printed 43 = .ok (.getfield 45, 3) := by decide +kernel
theorem d_Model_printed_46 : decode b_Model_printed 46 = .ok (.bipush 24, 2) := by decide +kernel
theorem d_Model_printed_48 : decode b_Model_printed 48 = .ok (.iload_n 1, 1) := by decide +kernel
theorem d_Model_printed_49 : decode b_Model_printed 49 = .ok (.imul, 1) := by decide +kernel
theorem d_Model_printed_50 : decode b_Model_printed 50 = .ok (.iload_n 2, 1) := by decide +kernel
theorem d_Model_printed_51 : decode b_Model_printed 51 = .ok (.iadd, 1) := by decide +kernel
theorem d_Model_printed_52 : decode b_Model_printed 52 = .ok (.baload, 1) := by decide +kernel
theorem d_Model_printed_53 : decode b_Model_printed 53 = .ok (.ireturn, 1) := by decide +kernel
theorem d_Model_printed : decode b_Model_printed 0 = .ok (.aload_n 0, 1) ∧ decode b_Model_printed 1 = .ok (.iload_n 1, 1) ∧ decode b_Model_printed 2 = .ok (.ifCond .lt 25, 3) ∧ decode b_Model_printed 5 = .ok (.iload_n 1, 1) ∧ decode b_Model_printed 6 = .ok (.aload_n 0, 1) ∧ decode b_Model_printed 7 = .ok (.getfield 188, 3) ∧ decode b_Model_printed 10 = .ok (.if_icmp .ge 17, 3) ∧ decode b_Model_printed 13 = .ok (.iload_n 2, 1) ∧ decode b_Model_printed 14 = .ok (.ifCond .lt 13, 3) ∧ decode b_Model_printed 17 = .ok (.iload_n 2, 1) ∧ decode b_Model_printed 18 = .ok (.bipush 24, 2) ∧ decode b_Model_printed 20 = .ok (.if_icmp .ge 7, 3) ∧ decode b_Model_printed 23 = .ok (.iconst 0, 1) ∧ decode b_Model_printed 24 = .ok (.goto 4, 3) ∧ decode b_Model_printed 27 = .ok (.iconst 1, 1) ∧ decode b_Model_printed 28 = .ok (.putfield 52, 3) ∧ decode b_Model_printed 31 = .ok (.aload_n 0, 1) ∧ decode b_Model_printed 32 = .ok (.getfield 52, 3) ∧ decode b_Model_printed 35 = .ok (.ifCond .le 7, 3) ∧ decode b_Model_printed 38 = .ok (.iconst 0, 1) ∧ decode b_Model_printed 39 = .ok (.goto 14, 3) ∧ decode b_Model_printed 42 = .ok (.aload_n 0, 1) ∧ decode b_Model_printed 43 = .ok (.getfield 45, 3) ∧ decode b_Model_printed 46 = .ok (.bipush 24, 2) ∧ decode b_Model_printed 48 = .ok (.iload_n 1, 1) ∧ decode b_Model_printed 49 = .ok (.imul, 1) ∧ decode b_Model_printed 50 = .ok (.iload_n 2, 1) ∧ decode b_Model_printed 51 = .ok (.iadd, 1) ∧ decode b_Model_printed 52 = .ok (.baload, 1) ∧ decode b_Model_printed 53 = .ok (.ireturn, 1) := ⟨d_Model_printed_0, d_Model_printed_1, d_Model_printed_2, d_Model_printed_5, d_Model_printed_6, d_Model_printed_7, d_Model_printed_10, d_Model_printed_13, d_Model_printed_14, d_Model_printed_17, d_Model_printed_18, d_Model_printed_20, d_Model_printed_23, d_Model_printed_24, d_Model_printed_27, d_Model_printed_28, d_Model_printed_31, d_Model_printed_32, d_Model_printed_35, d_Model_printed_38, d_Model_printed_39, d_Model_printed_42, d_Model_printed_43, d_Model_printed_46, d_Model_printed_48, d_Model_printed_49, d_Model_printed_50, d_Model_printed_51, d_Model_printed_52, d_Model_printed_53⟩
theorem v_Model_printed : Cond.instanceMethod y_Model_printed ∈ nm_Ts ∧ Cond.selects y_Model_printed.cls y_Model_printed y_Model_printed ∈ nm_Ts ∧ Cond.initialized y_Model_printed.cls ∈ nm_Ts ∧ Cond.code y_Model_printed b_Model_printed 3 (some .int) ∈ nm_Ts ∧ mz_cl1 y_Model_printed 2 := ⟨nm_t5 126 rfl rfl, nm_t5 127 rfl rfl, nm_t1 12 rfl rfl, nm_t5 128 rfl rfl, by decide +kernel⟩
def y_Model_counter : MethodName := ⟨"CardOfficeModel", "counter", "(I)I"⟩
abbrev b_Model_counter : ByteArray := prog_14_method_61_code
def r_Model_counter (c s : Nat) : Room := { frames := 0, cells := c, slots := s, locals := 0 }
theorem d_Model_counter_0 : decode b_Model_counter 0 = .ok (.aload_n 0, 1) := by decide +kernel
theorem d_Model_counter_1 : decode b_Model_counter 1 = .ok (.iload_n 1, 1) := by decide +kernel
theorem d_Model_counter_2 : decode b_Model_counter 2 = .ok (.ifCond .lt 12, 3) := by decide +kernel
theorem d_Model_counter_5 : decode b_Model_counter 5 = .ok (.iload_n 1, 1) := by decide +kernel
theorem d_Model_counter_6 : decode b_Model_counter 6 = .ok (.iconst 4, 1) := by decide +kernel
theorem d_Model_counter_7 : decode b_Model_counter 7 = .ok (.if_icmp .ge 7, 3) := by decide +kernel
theorem d_Model_counter_10 : decode b_Model_counter 10 = .ok (.iconst 0, 1) := by decide +kernel
theorem d_Model_counter_11 : decode b_Model_counter 11 = .ok (.goto 4, 3) := by decide +kernel
theorem d_Model_counter_14 : decode b_Model_counter 14 = .ok (.iconst 1, 1) := by decide +kernel
theorem d_Model_counter_15 : decode b_Model_counter 15 = .ok (.putfield 52, 3) := by decide +kernel
theorem d_Model_counter_18 : decode b_Model_counter 18 = .ok (.aload_n 0, 1) := by decide +kernel
theorem d_Model_counter_19 : decode b_Model_counter 19 = .ok (.getfield 52, 3) := by decide +kernel
theorem d_Model_counter_22 : decode b_Model_counter 22 = .ok (.ifCond .le 7, 3) := by decide +kernel
theorem d_Model_counter_25 : decode b_Model_counter 25 = .ok (.iconst 0, 1) := by decide +kernel
theorem d_Model_counter_26 : decode b_Model_counter 26 = .ok (.goto 9, 3) := by decide +kernel
theorem d_Model_counter_29 : decode b_Model_counter 29 = .ok (.aload_n 0, 1) := by decide +kernel
theorem d_Model_counter_30 : decode b_Model_counter 30 = .ok (.getfield 39, 3) := by decide +kernel
theorem d_Model_counter_33 : decode b_Model_counter 33 = .ok (.iload_n 1, 1) := by decide +kernel
theorem d_Model_counter_34 : decode b_Model_counter 34 = .ok (.iaload, 1) := by decide +kernel
theorem d_Model_counter_35 : decode b_Model_counter 35 = .ok (.ireturn, 1) := by decide +kernel
theorem d_Model_counter : decode b_Model_counter 0 = .ok (.aload_n 0, 1) ∧ decode b_Model_counter 1 = .ok (.iload_n 1, 1) ∧ decode b_Model_counter 2 = .ok (.ifCond .lt 12, 3) ∧ decode b_Model_counter 5 = .ok (.iload_n 1, 1) ∧ decode b_Model_counter 6 = .ok (.iconst 4, 1) ∧ decode b_Model_counter 7 = .ok (.if_icmp .ge 7, 3) ∧ decode b_Model_counter 10 = .ok (.iconst 0, 1) ∧ decode b_Model_counter 11 = .ok (.goto 4, 3) ∧ decode b_Model_counter 14 = .ok (.iconst 1, 1) ∧ decode b_Model_counter 15 = .ok (.putfield 52, 3) ∧ decode b_Model_counter 18 = .ok (.aload_n 0, 1) ∧ decode b_Model_counter 19 = .ok (.getfield 52, 3) ∧ decode b_Model_counter 22 = .ok (.ifCond .le 7, 3) ∧ decode b_Model_counter 25 = .ok (.iconst 0, 1) ∧ decode b_Model_counter 26 = .ok (.goto 9, 3) ∧ decode b_Model_counter 29 = .ok (.aload_n 0, 1) ∧ decode b_Model_counter 30 = .ok (.getfield 39, 3) ∧ decode b_Model_counter 33 = .ok (.iload_n 1, 1) ∧ decode b_Model_counter 34 = .ok (.iaload, 1) ∧ decode b_Model_counter 35 = .ok (.ireturn, 1) := ⟨d_Model_counter_0, d_Model_counter_1, d_Model_counter_2, d_Model_counter_5, d_Model_counter_6, d_Model_counter_7, d_Model_counter_10, d_Model_counter_11, d_Model_counter_14, d_Model_counter_15, d_Model_counter_18, d_Model_counter_19, d_Model_counter_22, d_Model_counter_25, d_Model_counter_26, d_Model_counter_29, d_Model_counter_30, d_Model_counter_33, d_Model_counter_34, d_Model_counter_35⟩
theorem v_Model_counter : Cond.instanceMethod y_Model_counter ∈ nm_Ts ∧ Cond.selects y_Model_counter.cls y_Model_counter y_Model_counter ∈ nm_Ts ∧ Cond.initialized y_Model_counter.cls ∈ nm_Ts ∧ Cond.code y_Model_counter b_Model_counter 2 (some .int) ∈ nm_Ts ∧ mz_cl1 y_Model_counter 1 := ⟨nm_t5 130 rfl rfl, nm_t5 131 rfl rfl, nm_t1 12 rfl rfl, nm_t5 132 rfl rfl, by decide +kernel⟩
def y_Model_tear : MethodName := ⟨"CardOfficeModel", "tear", "()I"⟩
abbrev b_Model_tear : ByteArray := prog_14_method_62_code
def r_Model_tear (c s : Nat) : Room := { frames := 0, cells := c, slots := s, locals := 0 }
theorem d_Model_tear_0 : decode b_Model_tear 0 = .ok (.aload_n 0, 1) := by decide +kernel
theorem d_Model_tear_1 : decode b_Model_tear 1 = .ok (.iconst 0, 1) := by decide +kernel
theorem d_Model_tear_2 : decode b_Model_tear 2 = .ok (.putfield 52, 3) := by decide +kernel
theorem d_Model_tear_5 : decode b_Model_tear 5 = .ok (.aload_n 0, 1) := by decide +kernel
theorem d_Model_tear_6 : decode b_Model_tear 6 = .ok (.getfield 188, 3) := by decide +kernel
theorem d_Model_tear_9 : decode b_Model_tear 9 = .ok (.istore_n 1, 1) := by decide +kernel
theorem d_Model_tear_10 : decode b_Model_tear 10 = .ok (.aload_n 0, 1) := by decide +kernel
theorem d_Model_tear_11 : decode b_Model_tear 11 = .ok (.iconst 0, 1) := by decide +kernel
theorem d_Model_tear_12 : decode b_Model_tear 12 = .ok (.putfield 188, 3) := by decide +kernel
theorem d_Model_tear_15 : decode b_Model_tear 15 = .ok (.iload_n 1, 1) := by decide +kernel
theorem d_Model_tear_16 : decode b_Model_tear 16 = .ok (.ireturn, 1) := by decide +kernel
theorem d_Model_tear : decode b_Model_tear 0 = .ok (.aload_n 0, 1) ∧ decode b_Model_tear 1 = .ok (.iconst 0, 1) ∧ decode b_Model_tear 2 = .ok (.putfield 52, 3) ∧ decode b_Model_tear 5 = .ok (.aload_n 0, 1) ∧ decode b_Model_tear 6 = .ok (.getfield 188, 3) ∧ decode b_Model_tear 9 = .ok (.istore_n 1, 1) ∧ decode b_Model_tear 10 = .ok (.aload_n 0, 1) ∧ decode b_Model_tear 11 = .ok (.iconst 0, 1) ∧ decode b_Model_tear 12 = .ok (.putfield 188, 3) ∧ decode b_Model_tear 15 = .ok (.iload_n 1, 1) ∧ decode b_Model_tear 16 = .ok (.ireturn, 1) := ⟨d_Model_tear_0, d_Model_tear_1, d_Model_tear_2, d_Model_tear_5, d_Model_tear_6, d_Model_tear_9, d_Model_tear_10, d_Model_tear_11, d_Model_tear_12, d_Model_tear_15, d_Model_tear_16⟩
theorem v_Model_tear : Cond.instanceMethod y_Model_tear ∈ nm_Ts ∧ Cond.selects y_Model_tear.cls y_Model_tear y_Model_tear ∈ nm_Ts ∧ Cond.initialized y_Model_tear.cls ∈ nm_Ts ∧ Cond.code y_Model_tear b_Model_tear 2 (some .int) ∈ nm_Ts ∧ mz_cl1 y_Model_tear 0 := ⟨nm_t5 134 rfl rfl, nm_t5 135 rfl rfl, nm_t1 12 rfl rfl, nm_t5 136 rfl rfl, by decide +kernel⟩
def y_Model_fault : MethodName := ⟨"CardOfficeModel", "fault", "(I)I"⟩
abbrev b_Model_fault : ByteArray := prog_14_method_63_code
def r_Model_fault (c s : Nat) : Room := { frames := 0, cells := c, slots := s, locals := 0 }
theorem d_Model_fault_0 : decode b_Model_fault 0 = .ok (.aload_n 0, 1) := by decide +kernel
theorem d_Model_fault_1 : decode b_Model_fault 1 = .ok (.iconst 0, 1) := by decide +kernel
theorem d_Model_fault_2 : decode b_Model_fault 2 = .ok (.putfield 52, 3) := by decide +kernel
theorem d_Model_fault_5 : decode b_Model_fault 5 = .ok (.iload_n 1, 1) := by decide +kernel
theorem d_Model_fault_6 : decode b_Model_fault 6 = .ok (.ifCond .ne 10, 3) := by decide +kernel
theorem d_Model_fault_9 : decode b_Model_fault 9 = .ok (.aload_n 0, 1) := by decide +kernel
theorem d_Model_fault_10 : decode b_Model_fault 10 = .ok (.getfield 148, 3) := by decide +kernel
theorem d_Model_fault_13 : decode b_Model_fault 13 = .ok (.goto 16, 3) := by decide +kernel
theorem d_Model_fault_16 : decode b_Model_fault 16 = .ok (.iload_n 1, 1) := by decide +kernel
theorem d_Model_fault_17 : decode b_Model_fault 17 = .ok (.iconst 1, 1) := by decide +kernel
theorem d_Model_fault_18 : decode b_Model_fault 18 = .ok (.if_icmp .ne 10, 3) := by decide +kernel
theorem d_Model_fault_21 : decode b_Model_fault 21 = .ok (.aload_n 0, 1) := by decide +kernel
theorem d_Model_fault_22 : decode b_Model_fault 22 = .ok (.getfield 48, 3) := by decide +kernel
theorem d_Model_fault_25 : decode b_Model_fault 25 = .ok (.goto 4, 3) := by decide +kernel
theorem d_Model_fault_28 : decode b_Model_fault 28 = .ok (.iconst (-1), 1) := by decide +kernel
theorem d_Model_fault_29 : decode b_Model_fault 29 = .ok (.ireturn, 1) := by decide +kernel
theorem d_Model_fault : decode b_Model_fault 0 = .ok (.aload_n 0, 1) ∧ decode b_Model_fault 1 = .ok (.iconst 0, 1) ∧ decode b_Model_fault 2 = .ok (.putfield 52, 3) ∧ decode b_Model_fault 5 = .ok (.iload_n 1, 1) ∧ decode b_Model_fault 6 = .ok (.ifCond .ne 10, 3) ∧ decode b_Model_fault 9 = .ok (.aload_n 0, 1) ∧ decode b_Model_fault 10 = .ok (.getfield 148, 3) ∧ decode b_Model_fault 13 = .ok (.goto 16, 3) ∧ decode b_Model_fault 16 = .ok (.iload_n 1, 1) ∧ decode b_Model_fault 17 = .ok (.iconst 1, 1) ∧ decode b_Model_fault 18 = .ok (.if_icmp .ne 10, 3) ∧ decode b_Model_fault 21 = .ok (.aload_n 0, 1) ∧ decode b_Model_fault 22 = .ok (.getfield 48, 3) ∧ decode b_Model_fault 25 = .ok (.goto 4, 3) ∧ decode b_Model_fault 28 = .ok (.iconst (-1), 1) ∧ decode b_Model_fault 29 = .ok (.ireturn, 1) := ⟨d_Model_fault_0, d_Model_fault_1, d_Model_fault_2, d_Model_fault_5, d_Model_fault_6, d_Model_fault_9, d_Model_fault_10, d_Model_fault_13, d_Model_fault_16, d_Model_fault_17, d_Model_fault_18, d_Model_fault_21, d_Model_fault_22, d_Model_fault_25, d_Model_fault_28, d_Model_fault_29⟩
theorem v_Model_fault : Cond.instanceMethod y_Model_fault ∈ nm_Ts ∧ Cond.selects y_Model_fault.cls y_Model_fault y_Model_fault ∈ nm_Ts ∧ Cond.initialized y_Model_fault.cls ∈ nm_Ts ∧ Cond.code y_Model_fault b_Model_fault 2 (some .int) ∈ nm_Ts ∧ mz_cl1 y_Model_fault 1 := ⟨nm_t5 138 rfl rfl, nm_t5 139 rfl rfl, nm_t1 12 rfl rfl, nm_t5 140 rfl rfl, by decide +kernel⟩
def y_Model_count : MethodName := ⟨"CardOfficeModel", "count", "(I)I"⟩
abbrev b_Model_count : ByteArray := prog_14_method_64_code
def r_Model_count (c s : Nat) : Room := { frames := 0, cells := c, slots := s, locals := 0 }
theorem d_Model_count_0 : decode b_Model_count 0 = .ok (.aload_n 0, 1) := by decide +kernel
theorem d_Model_count_1 : decode b_Model_count 1 = .ok (.iconst 0, 1) := by decide +kernel
theorem d_Model_count_2 : decode b_Model_count 2 = .ok (.putfield 52, 3) := by decide +kernel
theorem d_Model_count_5 : decode b_Model_count 5 = .ok (.iload_n 1, 1) := by decide +kernel
theorem d_Model_count_6 : decode b_Model_count 6 = .ok (.ifCond .lt 16, 3) := by decide +kernel
theorem d_Model_count_9 : decode b_Model_count 9 = .ok (.iload_n 1, 1) := by decide +kernel
theorem d_Model_count_10 : decode b_Model_count 10 = .ok (.bipush 8, 2) := by decide +kernel
theorem d_Model_count_12 : decode b_Model_count 12 = .ok (.if_icmp .ge 10, 3) := by decide +kernel
theorem d_Model_count_15 : decode b_Model_count 15 = .ok (.aload_n 0, 1) := by decide +kernel
theorem d_Model_count_16 : decode b_Model_count 16 = .ok (.getfield 17, 3) := by decide +kernel
theorem d_Model_count_19 : decode b_Model_count 19 = .ok (.iload_n 1, 1) := by decide +kernel
theorem d_Model_count_20 : decode b_Model_count 20 = .ok (.iaload, 1) := by decide +kernel
theorem d_Model_count_21 : decode b_Model_count 21 = .ok (.ireturn, 1) := by decide +kernel
theorem d_Model_count_22 : decode b_Model_count 22 = .ok (.iload_n 1, 1) := by decide +kernel
theorem d_Model_count_23 : decode b_Model_count 23 = .ok (.bipush 10, 2) := by decide +kernel
theorem d_Model_count_25 : decode b_Model_count 25 = .ok (.if_icmp .lt 19, 3) := by decide +kernel
theorem d_Model_count_28 : decode b_Model_count 28 = .ok (.iload_n 1, 1) := by decide +kernel
theorem d_Model_count_29 : decode b_Model_count 29 = .ok (.bipush 14, 2) := by decide +kernel
theorem d_Model_count_31 : decode b_Model_count 31 = .ok (.if_icmp .ge 13, 3) := by decide +kernel
theorem d_Model_count_34 : decode b_Model_count 34 = .ok (.aload_n 0, 1) := by decide +kernel
theorem d_Model_count_35 : decode b_Model_count 35 = .ok (.getfield 33, 3) := by decide +kernel
theorem d_Model_count_38 : decode b_Model_count 38 = .ok (.iload_n 1, 1) := by decide +kernel
theorem d_Model_count_39 : decode b_Model_count 39 = .ok (.bipush 10, 2) := by decide +kernel
theorem d_Model_count_41 : decode b_Model_count 41 = .ok (.isub, 1) := by decide +kernel
theorem d_Model_count_42 : decode b_Model_count 42 = .ok (.iaload, 1) := by decide +kernel
theorem d_Model_count_43 : decode b_Model_count 43 = .ok (.ireturn, 1) := by decide +kernel
theorem d_Model_count_44 : decode b_Model_count 44 = .ok (.iload_n 1, 1) := by decide +kernel
theorem d_Model_count_45 : decode b_Model_count 45 = .ok (.bipush 8, 2) := by decide +kernel
theorem d_Model_count_47 : decode b_Model_count 47 = .ok (.if_icmp .ne 10, 3) := by decide +kernel
theorem d_Model_count_50 : decode b_Model_count 50 = .ok (.aload_n 0, 1) := by decide +kernel
theorem d_Model_count_51 : decode b_Model_count 51 = .ok (.getfield 62, 3) := by decide +kernel
theorem d_Model_count_54 : decode b_Model_count 54 = .ok (.goto 43, 3) := by decide +kernel
theorem d_Model_count_57 : decode b_Model_count 57 = .ok (.iload_n 1, 1) := by decide +kernel
theorem d_Model_count_58 : decode b_Model_count 58 = .ok (.bipush 9, 2) := by decide +kernel
theorem d_Model_count_60 : decode b_Model_count 60 = .ok (.if_icmp .ne 10, 3) := by decide +kernel
theorem d_Model_count_63 : decode b_Model_count 63 = .ok (.aload_n 0, 1) := by decide +kernel
theorem d_Model_count_64 : decode b_Model_count 64 = .ok (.getfield 188, 3) := by decide +kernel
theorem d_Model_count_67 : decode b_Model_count 67 = .ok (.goto 30, 3) := by decide +kernel
theorem d_Model_count_70 : decode b_Model_count 70 = .ok (.iload_n 1, 1) := by decide +kernel
theorem d_Model_count_71 : decode b_Model_count 71 = .ok (.bipush 14, 2) := by decide +kernel
theorem d_Model_count_73 : decode b_Model_count 73 = .ok (.if_icmp .ne 10, 3) := by decide +kernel
theorem d_Model_count_76 : decode b_Model_count 76 = .ok (.aload_n 0, 1) := by decide +kernel
theorem d_Model_count_77 : decode b_Model_count 77 = .ok (.getfield 105, 3) := by decide +kernel
theorem d_Model_count_80 : decode b_Model_count 80 = .ok (.goto 17, 3) := by decide +kernel
theorem d_Model_count_83 : decode b_Model_count 83 = .ok (.iload_n 1, 1) := by decide +kernel
theorem d_Model_count_84 : decode b_Model_count 84 = .ok (.bipush 15, 2) := by decide +kernel
theorem d_Model_count_86 : decode b_Model_count 86 = .ok (.if_icmp .ne 10, 3) := by decide +kernel
theorem d_Model_count_89 : decode b_Model_count 89 = .ok (.aload_n 0, 1) := by decide +kernel
theorem d_Model_count_90 : decode b_Model_count 90 = .ok (.getfield 133, 3) := by decide +kernel
theorem d_Model_count_93 : decode b_Model_count 93 = .ok (.goto 4, 3) := by decide +kernel
theorem d_Model_count_96 : decode b_Model_count 96 = .ok (.iconst (-1), 1) := by decide +kernel
theorem d_Model_count_97 : decode b_Model_count 97 = .ok (.ireturn, 1) := by decide +kernel
theorem d_Model_count : decode b_Model_count 0 = .ok (.aload_n 0, 1) ∧ decode b_Model_count 1 = .ok (.iconst 0, 1) ∧ decode b_Model_count 2 = .ok (.putfield 52, 3) ∧ decode b_Model_count 5 = .ok (.iload_n 1, 1) ∧ decode b_Model_count 6 = .ok (.ifCond .lt 16, 3) ∧ decode b_Model_count 9 = .ok (.iload_n 1, 1) ∧ decode b_Model_count 10 = .ok (.bipush 8, 2) ∧ decode b_Model_count 12 = .ok (.if_icmp .ge 10, 3) ∧ decode b_Model_count 15 = .ok (.aload_n 0, 1) ∧ decode b_Model_count 16 = .ok (.getfield 17, 3) ∧ decode b_Model_count 19 = .ok (.iload_n 1, 1) ∧ decode b_Model_count 20 = .ok (.iaload, 1) ∧ decode b_Model_count 21 = .ok (.ireturn, 1) ∧ decode b_Model_count 22 = .ok (.iload_n 1, 1) ∧ decode b_Model_count 23 = .ok (.bipush 10, 2) ∧ decode b_Model_count 25 = .ok (.if_icmp .lt 19, 3) ∧ decode b_Model_count 28 = .ok (.iload_n 1, 1) ∧ decode b_Model_count 29 = .ok (.bipush 14, 2) ∧ decode b_Model_count 31 = .ok (.if_icmp .ge 13, 3) ∧ decode b_Model_count 34 = .ok (.aload_n 0, 1) ∧ decode b_Model_count 35 = .ok (.getfield 33, 3) ∧ decode b_Model_count 38 = .ok (.iload_n 1, 1) ∧ decode b_Model_count 39 = .ok (.bipush 10, 2) ∧ decode b_Model_count 41 = .ok (.isub, 1) ∧ decode b_Model_count 42 = .ok (.iaload, 1) ∧ decode b_Model_count 43 = .ok (.ireturn, 1) ∧ decode b_Model_count 44 = .ok (.iload_n 1, 1) ∧ decode b_Model_count 45 = .ok (.bipush 8, 2) ∧ decode b_Model_count 47 = .ok (.if_icmp .ne 10, 3) ∧ decode b_Model_count 50 = .ok (.aload_n 0, 1) ∧ decode b_Model_count 51 = .ok (.getfield 62, 3) ∧ decode b_Model_count 54 = .ok (.goto 43, 3) ∧ decode b_Model_count 57 = .ok (.iload_n 1, 1) ∧ decode b_Model_count 58 = .ok (.bipush 9, 2) ∧ decode b_Model_count 60 = .ok (.if_icmp .ne 10, 3) ∧ decode b_Model_count 63 = .ok (.aload_n 0, 1) ∧ decode b_Model_count 64 = .ok (.getfield 188, 3) ∧ decode b_Model_count 67 = .ok (.goto 30, 3) ∧ decode b_Model_count 70 = .ok (.iload_n 1, 1) ∧ decode b_Model_count 71 = .ok (.bipush 14, 2) ∧ decode b_Model_count 73 = .ok (.if_icmp .ne 10, 3) ∧ decode b_Model_count 76 = .ok (.aload_n 0, 1) ∧ decode b_Model_count 77 = .ok (.getfield 105, 3) ∧ decode b_Model_count 80 = .ok (.goto 17, 3) ∧ decode b_Model_count 83 = .ok (.iload_n 1, 1) ∧ decode b_Model_count 84 = .ok (.bipush 15, 2) ∧ decode b_Model_count 86 = .ok (.if_icmp .ne 10, 3) ∧ decode b_Model_count 89 = .ok (.aload_n 0, 1) ∧ decode b_Model_count 90 = .ok (.getfield 133, 3) ∧ decode b_Model_count 93 = .ok (.goto 4, 3) ∧ decode b_Model_count 96 = .ok (.iconst (-1), 1) ∧ decode b_Model_count 97 = .ok (.ireturn, 1) := ⟨d_Model_count_0, d_Model_count_1, d_Model_count_2, d_Model_count_5, d_Model_count_6, d_Model_count_9, d_Model_count_10, d_Model_count_12, d_Model_count_15, d_Model_count_16, d_Model_count_19, d_Model_count_20, d_Model_count_21, d_Model_count_22, d_Model_count_23, d_Model_count_25, d_Model_count_28, d_Model_count_29, d_Model_count_31, d_Model_count_34, d_Model_count_35, d_Model_count_38, d_Model_count_39, d_Model_count_41, d_Model_count_42, d_Model_count_43, d_Model_count_44, d_Model_count_45, d_Model_count_47, d_Model_count_50, d_Model_count_51, d_Model_count_54, d_Model_count_57, d_Model_count_58, d_Model_count_60, d_Model_count_63, d_Model_count_64, d_Model_count_67, d_Model_count_70, d_Model_count_71, d_Model_count_73, d_Model_count_76, d_Model_count_77, d_Model_count_80, d_Model_count_83, d_Model_count_84, d_Model_count_86, d_Model_count_89, d_Model_count_90, d_Model_count_93, d_Model_count_96, d_Model_count_97⟩
theorem v_Model_count : Cond.instanceMethod y_Model_count ∈ nm_Ts ∧ Cond.selects y_Model_count.cls y_Model_count y_Model_count ∈ nm_Ts ∧ Cond.initialized y_Model_count.cls ∈ nm_Ts ∧ Cond.code y_Model_count b_Model_count 2 (some .int) ∈ nm_Ts ∧ mz_cl1 y_Model_count 1 := ⟨nm_t5 142 rfl rfl, nm_t5 143 rfl rfl, nm_t1 12 rfl rfl, nm_t5 144 rfl rfl, by decide +kernel⟩
