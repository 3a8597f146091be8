section
def y_Model_init : MethodName := ⟨"CardOfficeModel", "<init>", "()V"⟩
abbrev b_Model_init : ByteArray := prog_14_method_1_code
def r_Model_init (c s : Nat) : Room := { frames := 1, cells := c, slots := s, locals := 14 }
theorem d_Model_init_0 : decode b_Model_init 0 = .ok (.aload_n 0, 1) := by decide +kernel
theorem d_Model_init_1 : decode b_Model_init 1 = .ok (.invokespecial 1, 3) := by decide +kernel
theorem d_Model_init_4 : decode b_Model_init 4 = .ok (.aload_n 0, 1) := by decide +kernel
theorem d_Model_init_5 : decode b_Model_init 5 = .ok (.sipush 3200, 3) := by decide +kernel
theorem d_Model_init_8 : decode b_Model_init 8 = .ok (.newarray .byte, 2) := by decide +kernel
theorem d_Model_init_10 : decode b_Model_init 10 = .ok (.putfield 7, 3) := by decide +kernel
theorem d_Model_init_13 : decode b_Model_init 13 = .ok (.aload_n 0, 1) := by decide +kernel
theorem d_Model_init_14 : decode b_Model_init 14 = .ok (.sipush 1600, 3) := by decide +kernel
theorem d_Model_init_17 : decode b_Model_init 17 = .ok (.newarray .short, 2) := by decide +kernel
theorem d_Model_init_19 : decode b_Model_init 19 = .ok (.putfield 13, 3) := by decide +kernel
theorem d_Model_init_22 : decode b_Model_init 22 = .ok (.aload_n 0, 1) := by decide +kernel
theorem d_Model_init_23 : decode b_Model_init 23 = .ok (.bipush 8, 2) := by decide +kernel
theorem d_Model_init_25 : decode b_Model_init 25 = .ok (.newarray .int, 2) := by decide +kernel
theorem d_Model_init_27 : decode b_Model_init 27 = .ok (.putfield 17, 3) := by decide +kernel
theorem d_Model_init_30 : decode b_Model_init 30 = .ok (.aload_n 0, 1) := by decide +kernel
theorem d_Model_init_31 : decode b_Model_init 31 = .ok (.sipush 200, 3) := by decide +kernel
theorem d_Model_init_34 : decode b_Model_init 34 = .ok (.newarray .short, 2) := by decide +kernel
theorem d_Model_init_36 : decode b_Model_init 36 = .ok (.putfield 21, 3) := by decide +kernel
theorem d_Model_init_39 : decode b_Model_init 39 = .ok (.aload_n 0, 1) := by decide +kernel
theorem d_Model_init_40 : decode b_Model_init 40 = .ok (.sipush 200, 3) := by decide +kernel
theorem d_Model_init_43 : decode b_Model_init 43 = .ok (.newarray .short, 2) := by decide +kernel
theorem d_Model_init_45 : decode b_Model_init 45 = .ok (.putfield 24, 3) := by decide +kernel
theorem d_Model_init_48 : decode b_Model_init 48 = .ok (.aload_n 0, 1) := by decide +kernel
theorem d_Model_init_49 : decode b_Model_init 49 = .ok (.sipush 160, 3) := by decide +kernel
theorem d_Model_init_52 : decode b_Model_init 52 = .ok (.newarray .byte, 2) := by decide +kernel
theorem d_Model_init_54 : decode b_Model_init 54 = .ok (.putfield 27, 3) := by decide +kernel
theorem d_Model_init_57 : decode b_Model_init 57 = .ok (.aload_n 0, 1) := by decide +kernel
theorem d_Model_init_58 : decode b_Model_init 58 = .ok (.sipush 160, 3) := by decide +kernel
theorem d_Model_init_61 : decode b_Model_init 61 = .ok (.newarray .byte, 2) := by decide +kernel
theorem d_Model_init_63 : decode b_Model_init 63 = .ok (.putfield 30, 3) := by decide +kernel
theorem d_Model_init_66 : decode b_Model_init 66 = .ok (.aload_n 0, 1) := by decide +kernel
theorem d_Model_init_67 : decode b_Model_init 67 = .ok (.iconst 4, 1) := by decide +kernel
theorem d_Model_init_68 : decode b_Model_init 68 = .ok (.newarray .int, 2) := by decide +kernel
theorem d_Model_init_70 : decode b_Model_init 70 = .ok (.putfield 33, 3) := by decide +kernel
theorem d_Model_init_73 : decode b_Model_init 73 = .ok (.aload_n 0, 1) := by decide +kernel
theorem d_Model_init_74 : decode b_Model_init 74 = .ok (.bipush 16, 2) := by decide +kernel
theorem d_Model_init_76 : decode b_Model_init 76 = .ok (.newarray .int, 2) := by decide +kernel
theorem d_Model_init_78 : decode b_Model_init 78 = .ok (.putfield 36, 3) := by decide +kernel
theorem d_Model_init_81 : decode b_Model_init 81 = .ok (.aload_n 0, 1) := by decide +kernel
theorem d_Model_init_82 : decode b_Model_init 82 = .ok (.iconst 4, 1) := by decide +kernel
theorem d_Model_init_83 : decode b_Model_init 83 = .ok (.newarray .int, 2) := by decide +kernel
theorem d_Model_init_85 : decode b_Model_init 85 = .ok (.putfield 39, 3) := by decide +kernel
theorem d_Model_init_88 : decode b_Model_init 88 = .ok (.aload_n 0, 1) := by decide +kernel
theorem d_Model_init_89 : decode b_Model_init 89 = .ok (.iconst 4, 1) := by decide +kernel
theorem d_Model_init_90 : decode b_Model_init 90 = .ok (.newarray .int, 2) := by decide +kernel
theorem d_Model_init_92 : decode b_Model_init 92 = .ok (.putfield 42, 3) := by decide +kernel
theorem d_Model_init_95 : decode b_Model_init 95 = .ok (.aload_n 0, 1) := by decide +kernel
theorem d_Model_init_96 : decode b_Model_init 96 = .ok (.sipush 2400, 3) := by decide +kernel
theorem d_Model_init_99 : decode b_Model_init 99 = .ok (.newarray .byte, 2) := by decide +kernel
theorem d_Model_init_101 : decode b_Model_init 101 = .ok (.putfield 45, 3) := by decide +kernel
theorem d_Model_init_104 : decode b_Model_init 104 = .ok (.aload_n 0, 1) := by decide +kernel
theorem d_Model_init_105 : decode b_Model_init 105 = .ok (.iconst (-1), 1) := by decide +kernel
theorem d_Model_init_106 : decode b_Model_init 106 = .ok (.putfield 48, 3) := by decide +kernel
theorem d_Model_init_109 : decode b_Model_init 109 = .ok (.iconst 0, 1) := by decide +kernel
theorem d_Model_init_110 : decode b_Model_init 110 = .ok (.istore_n 1, 1) := by decide +kernel
theorem d_Model_init_111 : decode b_Model_init 111 = .ok (.iload_n 1, 1) := by decide +kernel
theorem d_Model_init_112 : decode b_Model_init 112 = .ok (.bipush 16, 2) := by decide +kernel
theorem d_Model_init_114 : decode b_Model_init 114 = .ok (.if_icmp .ge 16, 3) := by decide +kernel
theorem d_Model_init_117 : decode b_Model_init 117 = .ok (.aload_n 0, 1) := by decide +kernel
theorem d_Model_init_118 : decode b_Model_init 118 = .ok (.getfield 36, 3) := by decide +kernel
theorem d_Model_init_121 : decode b_Model_init 121 = .ok (.iload_n 1, 1) := by decide +kernel
theorem d_Model_init_122 : decode b_Model_init 122 = .ok (.iconst 3, 1) := by decide +kernel
theorem d_Model_init_123 : decode b_Model_init 123 = .ok (.iastore, 1) := by decide +kernel
theorem d_Model_init_124 : decode b_Model_init 124 = .ok (.iinc 1 1, 3) := by decide +kernel
theorem d_Model_init_127 : decode b_Model_init 127 = .ok (.goto (-16), 3) := by decide +kernel
theorem d_Model_init_130 : decode b_Model_init 130 = .ok (.return_, 1) := by decide +kernel
theorem d_Model_init : decode b_Model_init 0 = .ok (.aload_n 0, 1) ∧ decode b_Model_init 1 = .ok (.invokespecial 1, 3) ∧ decode b_Model_init 4 = .ok (.aload_n 0, 1) ∧ decode b_Model_init 5 = .ok (.sipush 3200, 3) ∧ decode b_Model_init 8 = .ok (.newarray .byte, 2) ∧ decode b_Model_init 10 = .ok (.putfield 7, 3) ∧ decode b_Model_init 13 = .ok (.aload_n 0, 1) ∧ decode b_Model_init 14 = .ok (.sipush 1600, 3) ∧ decode b_Model_init 17 = .ok (.newarray .short, 2) ∧ decode b_Model_init 19 = .ok (.putfield 13, 3) ∧ decode b_Model_init 22 = .ok (.aload_n 0, 1) ∧ decode b_Model_init 23 = .ok (.bipush 8, 2) ∧ decode b_Model_init 25 = .ok (.newarray .int, 2) ∧ decode b_Model_init 27 = .ok (.putfield 17, 3) ∧ decode b_Model_init 30 = .ok (.aload_n 0, 1) ∧ decode b_Model_init 31 = .ok (.sipush 200, 3) ∧ decode b_Model_init 34 = .ok (.newarray .short, 2) ∧ decode b_Model_init 36 = .ok (.putfield 21, 3) ∧ decode b_Model_init 39 = .ok (.aload_n 0, 1) ∧ decode b_Model_init 40 = .ok (.sipush 200, 3) ∧ decode b_Model_init 43 = .ok (.newarray .short, 2) ∧ decode b_Model_init 45 = .ok (.putfield 24, 3) ∧ decode b_Model_init 48 = .ok (.aload_n 0, 1) ∧ decode b_Model_init 49 = .ok (.sipush 160, 3) ∧ decode b_Model_init 52 = .ok (.newarray .byte, 2) ∧ decode b_Model_init 54 = .ok (.putfield 27, 3) ∧ decode b_Model_init 57 = .ok (.aload_n 0, 1) ∧ decode b_Model_init 58 = .ok (.sipush 160, 3) ∧ decode b_Model_init 61 = .ok (.newarray .byte, 2) ∧ decode b_Model_init 63 = .ok (.putfield 30, 3) ∧ decode b_Model_init 66 = .ok (.aload_n 0, 1) ∧ decode b_Model_init 67 = .ok (.iconst 4, 1) ∧ decode b_Model_init 68 = .ok (.newarray .int, 2) ∧ decode b_Model_init 70 = .ok (.putfield 33, 3) ∧ decode b_Model_init 73 = .ok (.aload_n 0, 1) ∧ decode b_Model_init 74 = .ok (.bipush 16, 2) ∧ decode b_Model_init 76 = .ok (.newarray .int, 2) ∧ decode b_Model_init 78 = .ok (.putfield 36, 3) ∧ decode b_Model_init 81 = .ok (.aload_n 0, 1) ∧ decode b_Model_init 82 = .ok (.iconst 4, 1) ∧ decode b_Model_init 83 = .ok (.newarray .int, 2) ∧ decode b_Model_init 85 = .ok (.putfield 39, 3) ∧ decode b_Model_init 88 = .ok (.aload_n 0, 1) ∧ decode b_Model_init 89 = .ok (.iconst 4, 1) ∧ decode b_Model_init 90 = .ok (.newarray .int, 2) ∧ decode b_Model_init 92 = .ok (.putfield 42, 3) ∧ decode b_Model_init 95 = .ok (.aload_n 0, 1) ∧ decode b_Model_init 96 = .ok (.sipush 2400, 3) ∧ decode b_Model_init 99 = .ok (.newarray .byte, 2) ∧ decode b_Model_init 101 = .ok (.putfield 45, 3) ∧ decode b_Model_init 104 = .ok (.aload_n 0, 1) ∧ decode b_Model_init 105 = .ok (.iconst (-1), 1) ∧ decode b_Model_init 106 = .ok (.putfield 48, 3) ∧ decode b_Model_init 109 = .ok (.iconst 0, 1) ∧ decode b_Model_init 110 = .ok (.istore_n 1, 1) ∧ decode b_Model_init 111 = .ok (.iload_n 1, 1) ∧ decode b_Model_init 112 = .ok (.bipush 16, 2) ∧ decode b_Model_init 114 = .ok (.if_icmp .ge 16, 3) ∧ decode b_Model_init 117 = .ok (.aload_n 0, 1) ∧ decode b_Model_init 118 = .ok (.getfield 36, 3) ∧ decode b_Model_init 121 = .ok (.iload_n 1, 1) ∧ decode b_Model_init 122 = .ok (.iconst 3, 1) ∧ decode b_Model_init 123 = .ok (.iastore, 1) ∧ decode b_Model_init 124 = .ok (.iinc 1 1, 3) ∧ decode b_Model_init 127 = .ok (.goto (-16), 3) ∧ decode b_Model_init 130 = .ok (.return_, 1) := ⟨d_Model_init_0, d_Model_init_1, d_Model_init_4, d_Model_init_5, d_Model_init_8, d_Model_init_10, d_Model_init_13, d_Model_init_14, d_Model_init_17, d_Model_init_19, d_Model_init_22, d_Model_init_23, d_Model_init_25, d_Model_init_27, d_Model_init_30, d_Model_init_31, d_Model_init_34, d_Model_init_36, d_Model_init_39, d_Model_init_40, d_Model_init_43, d_Model_init_45, d_Model_init_48, d_Model_init_49, d_Model_init_52, d_Model_init_54, d_Model_init_57, d_Model_init_58, d_Model_init_61, d_Model_init_63, d_Model_init_66, d_Model_init_67, d_Model_init_68, d_Model_init_70, d_Model_init_73, d_Model_init_74, d_Model_init_76, d_Model_init_78, d_Model_init_81, d_Model_init_82, d_Model_init_83, d_Model_init_85, d_Model_init_88, d_Model_init_89, d_Model_init_90, d_Model_init_92, d_Model_init_95, d_Model_init_96, d_Model_init_99, d_Model_init_101, d_Model_init_104, d_Model_init_105, d_Model_init_106, d_Model_init_109, d_Model_init_110, d_Model_init_111, d_Model_init_112, d_Model_init_114, d_Model_init_117, d_Model_init_118, d_Model_init_121, d_Model_init_122, d_Model_init_123, d_Model_init_124, d_Model_init_127, d_Model_init_130⟩
theorem i_Model_init : Cond.instanceMethod y_Model_init ∈ nm_Ts ∧ y_Model_init.name = "<init>" ∧ Cond.initialized y_Model_init.cls ∈ nm_Ts ∧ Cond.code y_Model_init b_Model_init 2 none ∈ nm_Ts ∧ mz_cl1 y_Model_init 0 := ⟨nm_t4 80 rfl rfl, rfl, nm_t1 12 rfl rfl, nm_t4 81 rfl rfl, by decide +kernel⟩
def y_Model_card : MethodName := ⟨"CardOfficeModel", "card", "(IJJ)Z"⟩
abbrev b_Model_card : ByteArray := prog_14_method_15_code
def r_Model_card (c s : Nat) : Room := { frames := 1, cells := c, slots := s, locals := 22 }
theorem d_Model_card_0 : decode b_Model_card 0 = .ok (.aload_n 0, 1) := by decide +kernel
theorem d_Model_card_1 : decode b_Model_card 1 = .ok (.iconst 0, 1) := by decide +kernel
theorem d_Model_card_2 : decode b_Model_card 2 = .ok (.putfield 52, 3) := by decide +kernel
theorem d_Model_card_5 : decode b_Model_card 5 = .ok (.iload_n 1, 1) := by decide +kernel
theorem d_Model_card_6 : decode b_Model_card 6 = .ok (.invokestatic 65, 3) := by decide +kernel
theorem d_Model_card_9 : decode b_Model_card 9 = .ok (.ifCond .eq 17, 3) := by decide +kernel
theorem d_Model_card_12 : decode b_Model_card 12 = .ok (.aload_n 0, 1) := by decide +kernel
theorem d_Model_card_13 : decode b_Model_card 13 = .ok (.getfield 62, 3) := by decide +kernel
theorem d_Model_card_16 : decode b_Model_card 16 = .ok (.sipush 200, 3) := by decide +kernel
theorem d_Model_card_19 : decode b_Model_card 19 = .ok (.if_icmp .ge 7, 3) := by decide +kernel
theorem d_Model_card_22 : decode b_Model_card 22 = .ok (.iconst 1, 1) := by decide +kernel
theorem d_Model_card_23 : decode b_Model_card 23 = .ok (.goto 4, 3) := by decide +kernel
theorem d_Model_card_26 : decode b_Model_card 26 = .ok (.iconst 0, 1) := by decide +kernel
theorem d_Model_card_27 : decode b_Model_card 27 = .ok (.istore 6, 2) := by decide +kernel
theorem d_Model_card_29 : decode b_Model_card 29 = .ok (.iconst 0, 1) := by decide +kernel
theorem d_Model_card_30 : decode b_Model_card 30 = .ok (.istore 7, 2) := by decide +kernel
theorem d_Model_card_32 : decode b_Model_card 32 = .ok (.iload 7, 2) := by decide +kernel
theorem d_Model_card_34 : decode b_Model_card 34 = .ok (.bipush 16, 2) := by decide +kernel
theorem d_Model_card_36 : decode b_Model_card 36 = .ok (.if_icmp .ge 57, 3) := by decide +kernel
theorem d_Model_card_39 : decode b_Model_card 39 = .ok (.iload 6, 2) := by decide +kernel
theorem d_Model_card_41 : decode b_Model_card 41 = .ok (.ifCond .eq 43, 3) := by decide +kernel
theorem d_Model_card_44 : decode b_Model_card 44 = .ok (.iload 7, 2) := by decide +kernel
theorem d_Model_card_46 : decode b_Model_card 46 = .ok (.bipush 8, 2) := by decide +kernel
theorem d_Model_card_48 : decode b_Model_card 48 = .ok (.if_icmp .ge 7, 3) := by decide +kernel
theorem d_Model_card_51 : decode b_Model_card 51 = .ok (.lload_n 2, 1) := by decide +kernel
theorem d_Model_card_52 : decode b_Model_card 52 = .ok (.goto 5, 3) := by decide +kernel
theorem d_Model_card_55 : decode b_Model_card 55 = .ok (.lload 4, 2) := by decide +kernel
theorem d_Model_card_57 : decode b_Model_card 57 = .ok (.bipush 56, 2) := by decide +kernel
theorem d_Model_card_59 : decode b_Model_card 59 = .ok (.bipush 8, 2) := by decide +kernel
theorem d_Model_card_61 : decode b_Model_card 61 = .ok (.iload 7, 2) := by decide +kernel
theorem d_Model_card_63 : decode b_Model_card 63 = .ok (.bipush 8, 2) := by decide +kernel
theorem d_Model_card_65 : decode b_Model_card 65 = .ok (.irem, 1) := by decide +kernel
theorem d_Model_card_66 : decode b_Model_card 66 = .ok (.imul, 1) := by decide +kernel
theorem d_Model_card_67 : decode b_Model_card 67 = .ok (.isub, 1) := by decide +kernel
theorem d_Model_card_68 : decode b_Model_card 68 = .ok (.lshr, 1) := by decide +kernel
theorem d_Model_card_69 : decode b_Model_card 69 = .ok (.ldc2_w 69, 3) := by decide +kernel
theorem d_Model_card_72 : decode b_Model_card 72 = .ok (.land, 1) := by decide +kernel
theorem d_Model_card_73 : decode b_Model_card 73 = .ok (.l2i, 1) := by decide +kernel
theorem d_Model_card_74 : decode b_Model_card 74 = .ok (.invokestatic 71, 3) := by decide +kernel
theorem d_Model_card_77 : decode b_Model_card 77 = .ok (.ifCond .eq 7, 3) := by decide +kernel
theorem d_Model_card_80 : decode b_Model_card 80 = .ok (.iconst 1, 1) := by decide +kernel
theorem d_Model_card_81 : decode b_Model_card 81 = .ok (.goto 4, 3) := by decide +kernel
theorem d_Model_card_84 : decode b_Model_card 84 = .ok (.iconst 0, 1) := by decide +kernel
theorem d_Model_card_85 : decode b_Model_card 85 = .ok (.istore 6, 2) := by decide +kernel
theorem d_Model_card_87 : decode b_Model_card 87 = .ok (.iinc 7 1, 3) := by decide +kernel
theorem d_Model_card_90 : decode b_Model_card 90 = .ok (.goto (-58), 3) := by decide +kernel
theorem d_Model_card_93 : decode b_Model_card 93 = .ok (.iload 6, 2) := by decide +kernel
theorem d_Model_card_95 : decode b_Model_card 95 = .ok (.ifCond .ne 5, 3) := by decide +kernel
theorem d_Model_card_98 : decode b_Model_card 98 = .ok (.iconst 0, 1) := by decide +kernel
theorem d_Model_card_99 : decode b_Model_card 99 = .ok (.ireturn, 1) := by decide +kernel
theorem d_Model_card_100 : decode b_Model_card 100 = .ok (.aload_n 0, 1) := by decide +kernel
theorem d_Model_card_101 : decode b_Model_card 101 = .ok (.invokevirtual 74, 3) := by decide +kernel
theorem d_Model_card_104 : decode b_Model_card 104 = .ok (.istore 7, 2) := by decide +kernel
theorem d_Model_card_106 : decode b_Model_card 106 = .ok (.iconst 0, 1) := by decide +kernel
theorem d_Model_card_107 : decode b_Model_card 107 = .ok (.istore 8, 2) := by decide +kernel
theorem d_Model_card_109 : decode b_Model_card 109 = .ok (.iload 8, 2) := by decide +kernel
theorem d_Model_card_111 : decode b_Model_card 111 = .ok (.bipush 16, 2) := by decide +kernel
theorem d_Model_card_113 : decode b_Model_card 113 = .ok (.if_icmp .ge 53, 3) := by decide +kernel
theorem d_Model_card_116 : decode b_Model_card 116 = .ok (.aload_n 0, 1) := by decide +kernel
theorem d_Model_card_117 : decode b_Model_card 117 = .ok (.getfield 7, 3) := by decide +kernel
theorem d_Model_card_120 : decode b_Model_card 120 = .ok (.bipush 16, 2) := by decide +kernel
theorem d_Model_card_122 : decode b_Model_card 122 = .ok (.iload 7, 2) := by decide +kernel
theorem d_Model_card_124 : decode b_Model_card 124 = .ok (.imul, 1) := by decide +kernel
theorem d_Model_card_125 : decode b_Model_card 125 = .ok (.iload 8, 2) := by decide +kernel
theorem d_Model_card_127 : decode b_Model_card 127 = .ok (.iadd, 1) := by decide +kernel
theorem d_Model_card_128 : decode b_Model_card 128 = .ok (.iload 8, 2) := by decide +kernel
theorem d_Model_card_130 : decode b_Model_card 130 = .ok (.bipush 8, 2) := by decide +kernel
theorem d_Model_card_132 : decode b_Model_card 132 = .ok (.if_icmp .ge 7, 3) := by decide +kernel
theorem d_Model_card_135 : decode b_Model_card 135 = .ok (.lload_n 2, 1) := by decide +kernel
theorem d_Model_card_136 : decode b_Model_card 136 = .ok (.goto 5, 3) := by decide +kernel
theorem d_Model_card_139 : decode b_Model_card 139 = .ok (.lload 4, 2) := by decide +kernel
theorem d_Model_card_141 : decode b_Model_card 141 = .ok (.bipush 56, 2) := by decide +kernel
theorem d_Model_card_143 : decode b_Model_card 143 = .ok (.bipush 8, 2) := by decide +kernel
theorem d_Model_card_145 : decode b_Model_card 145 = .ok (.iload 8, 2) := by decide +kernel
theorem d_Model_card_147 : decode b_Model_card 147 = .ok (.bipush 8, 2) := by decide +kernel
theorem d_Model_card_149 : decode b_Model_card 149 = .ok (.irem, 1) := by decide +kernel
theorem d_Model_card_150 : decode b_Model_card 150 = .ok (.imul, 1) := by decide +kernel
theorem d_Model_card_151 : decode b_Model_card 151 = .ok (.isub, 1) := by decide +kernel
theorem d_Model_card_152 : decode b_Model_card 152 = .ok (.lshr, 1) := by decide +kernel
theorem d_Model_card_153 : decode b_Model_card 153 = .ok (.ldc2_w 69, 3) := by decide +kernel
theorem d_Model_card_156 : decode b_Model_card 156 = .ok (.land, 1) := by decide +kernel
theorem d_Model_card_157 : decode b_Model_card 157 = .ok (.l2i, 1) := by decide +kernel
theorem d_Model_card_158 : decode b_Model_card 158 = .ok (.i2b, 1) := by decide +kernel
theorem d_Model_card_159 : decode b_Model_card 159 = .ok (.bastore, 1) := by decide +kernel
theorem d_Model_card_160 : decode b_Model_card 160 = .ok (.iinc 8 1, 3) := by decide +kernel
theorem d_Model_card_163 : decode b_Model_card 163 = .ok (.goto (-54), 3) := by decide +kernel
theorem d_Model_card_166 : decode b_Model_card 166 = .ok (.aload_n 0, 1) := by decide +kernel
theorem d_Model_card_167 : decode b_Model_card 167 = .ok (.iload_n 1, 1) := by decide +kernel
theorem d_Model_card_168 : decode b_Model_card 168 = .ok (.iload 7, 2) := by decide +kernel
theorem d_Model_card_170 : decode b_Model_card 170 = .ok (.invokevirtual 78, 3) := by decide +kernel
theorem d_Model_card_173 : decode b_Model_card 173 = .ok (.iconst 1, 1) := by decide +kernel
theorem d_Model_card_174 : decode b_Model_card 174 = .ok (.ireturn, 1) := by decide +kernel
theorem v_Model_card : Cond.instanceMethod y_Model_card ∈ nm_Ts ∧ Cond.selects y_Model_card.cls y_Model_card y_Model_card ∈ nm_Ts ∧ Cond.initialized y_Model_card.cls ∈ nm_Ts ∧ Cond.code y_Model_card b_Model_card 9 (some .boolean) ∈ nm_Ts ∧ mz_cl1 y_Model_card 3 := ⟨nm_t4 143 rfl rfl, nm_t4 144 rfl rfl, nm_t1 12 rfl rfl, nm_t4 145 rfl rfl, by decide +kernel⟩
def y_Model_isDeck : MethodName := ⟨"CardOfficeModel", "isDeck", "(I)Z"⟩
abbrev b_Model_isDeck : ByteArray := prog_14_method_9_code
def r_Model_isDeck (c s : Nat) : Room := { frames := 0, cells := c, slots := s, locals := 0 }
theorem d_Model_isDeck_0 : decode b_Model_isDeck 0 = .ok (.iload_n 0, 1) := by decide +kernel
theorem d_Model_isDeck_1 : decode b_Model_isDeck 1 = .ok (.ifCond .lt 13, 3) := by decide +kernel
theorem d_Model_isDeck_4 : decode b_Model_isDeck 4 = .ok (.iload_n 0, 1) := by decide +kernel
theorem d_Model_isDeck_5 : decode b_Model_isDeck 5 = .ok (.bipush 8, 2) := by decide +kernel
theorem d_Model_isDeck_7 : decode b_Model_isDeck 7 = .ok (.if_icmp .ge 7, 3) := by decide +kernel
theorem d_Model_isDeck_10 : decode b_Model_isDeck 10 = .ok (.iconst 1, 1) := by decide +kernel
theorem d_Model_isDeck_11 : decode b_Model_isDeck 11 = .ok (.goto 4, 3) := by decide +kernel
theorem d_Model_isDeck_14 : decode b_Model_isDeck 14 = .ok (.iconst 0, 1) := by decide +kernel
theorem d_Model_isDeck_15 : decode b_Model_isDeck 15 = .ok (.ireturn, 1) := by decide +kernel
theorem s_Model_isDeck : Cond.static y_Model_isDeck ∈ nm_Ts ∧ Cond.initialized y_Model_isDeck.cls ∈ nm_Ts ∧ Cond.code y_Model_isDeck b_Model_isDeck 1 (some .boolean) ∈ nm_Ts ∧ mz_cl1 y_Model_isDeck 1 := ⟨nm_t4 147 rfl rfl, nm_t1 12 rfl rfl, nm_t4 148 rfl rfl, by decide +kernel⟩
def y_Model_isSign : MethodName := ⟨"CardOfficeModel", "isSign", "(I)Z"⟩
abbrev b_Model_isSign : ByteArray := prog_14_method_3_code
def r_Model_isSign (c s : Nat) : Room := { frames := 0, cells := c, slots := s, locals := 0 }
theorem d_Model_isSign_0 : decode b_Model_isSign 0 = .ok (.iload_n 0, 1) := by decide +kernel
theorem d_Model_isSign_1 : decode b_Model_isSign 1 = .ok (.bipush 32, 2) := by decide +kernel
theorem d_Model_isSign_3 : decode b_Model_isSign 3 = .ok (.if_icmp .eq 27, 3) := by decide +kernel
theorem d_Model_isSign_6 : decode b_Model_isSign 6 = .ok (.iload_n 0, 1) := by decide +kernel
theorem d_Model_isSign_7 : decode b_Model_isSign 7 = .ok (.bipush 48, 2) := by decide +kernel
theorem d_Model_isSign_9 : decode b_Model_isSign 9 = .ok (.if_icmp .lt 9, 3) := by decide +kernel
theorem d_Model_isSign_12 : decode b_Model_isSign 12 = .ok (.iload_n 0, 1) := by decide +kernel
theorem d_Model_isSign_13 : decode b_Model_isSign 13 = .ok (.bipush 57, 2) := by decide +kernel
theorem d_Model_isSign_15 : decode b_Model_isSign 15 = .ok (.if_icmp .le 15, 3) := by decide +kernel
theorem d_Model_isSign_18 : decode b_Model_isSign 18 = .ok (.iload_n 0, 1) := by decide +kernel
theorem d_Model_isSign_19 : decode b_Model_isSign 19 = .ok (.bipush 65, 2) := by decide +kernel
theorem d_Model_isSign_21 : decode b_Model_isSign 21 = .ok (.if_icmp .lt 13, 3) := by decide +kernel
theorem d_Model_isSign_24 : decode b_Model_isSign 24 = .ok (.iload_n 0, 1) := by decide +kernel
theorem d_Model_isSign_25 : decode b_Model_isSign 25 = .ok (.bipush 90, 2) := by decide +kernel
theorem d_Model_isSign_27 : decode b_Model_isSign 27 = .ok (.if_icmp .gt 7, 3) := by decide +kernel
theorem d_Model_isSign_30 : decode b_Model_isSign 30 = .ok (.iconst 1, 1) := by decide +kernel
theorem d_Model_isSign_31 : decode b_Model_isSign 31 = .ok (.goto 4, 3) := by decide +kernel
theorem d_Model_isSign_34 : decode b_Model_isSign 34 = .ok (.iconst 0, 1) := by decide +kernel
theorem d_Model_isSign_35 : decode b_Model_isSign 35 = .ok (.ireturn, 1) := by decide +kernel
theorem s_Model_isSign : Cond.static y_Model_isSign ∈ nm_Ts ∧ Cond.initialized y_Model_isSign.cls ∈ nm_Ts ∧ Cond.code y_Model_isSign b_Model_isSign 1 (some .boolean) ∈ nm_Ts ∧ mz_cl1 y_Model_isSign 1 := ⟨nm_t4 151 rfl rfl, nm_t1 12 rfl rfl, nm_t4 152 rfl rfl, by decide +kernel⟩
def y_Model_newCard : MethodName := ⟨"CardOfficeModel", "newCard", "()I"⟩
abbrev b_Model_newCard : ByteArray := prog_14_method_14_code
def r_Model_newCard (c s : Nat) : Room := { frames := 0, cells := c, slots := s, locals := 0 }
theorem d_Model_newCard_0 : decode b_Model_newCard 0 = .ok (.iconst 0, 1) := by decide +kernel
theorem d_Model_newCard_1 : decode b_Model_newCard 1 = .ok (.istore_n 1, 1) := by decide +kernel
theorem d_Model_newCard_2 : decode b_Model_newCard 2 = .ok (.iload_n 1, 1) := by decide +kernel
theorem d_Model_newCard_3 : decode b_Model_newCard 3 = .ok (.bipush 16, 2) := by decide +kernel
theorem d_Model_newCard_5 : decode b_Model_newCard 5 = .ok (.if_icmp .ge 25, 3) := by decide +kernel
theorem d_Model_newCard_8 : decode b_Model_newCard 8 = .ok (.aload_n 0, 1) := by decide +kernel
theorem d_Model_newCard_9 : decode b_Model_newCard 9 = .ok (.getfield 7, 3) := by decide +kernel
theorem d_Model_newCard_12 : decode b_Model_newCard 12 = .ok (.bipush 16, 2) := by decide +kernel
theorem d_Model_newCard_14 : decode b_Model_newCard 14 = .ok (.aload_n 0, 1) := by decide +kernel
theorem d_Model_newCard_15 : decode b_Model_newCard 15 = .ok (.getfield 62, 3) := by decide +kernel
theorem d_Model_newCard_18 : decode b_Model_newCard 18 = .ok (.imul, 1) := by decide +kernel
theorem d_Model_newCard_19 : decode b_Model_newCard 19 = .ok (.iload_n 1, 1) := by decide +kernel
theorem d_Model_newCard_20 : decode b_Model_newCard 20 = .ok (.iadd, 1) := by decide +kernel
theorem d_Model_newCard_21 : decode b_Model_newCard 21 = .ok (.bipush 32, 2) := by decide +kernel
theorem d_Model_newCard_23 : decode b_Model_newCard 23 = .ok (.bastore, 1) := by decide +kernel
theorem d_Model_newCard_24 : decode b_Model_newCard 24 = .ok (.iinc 1 1, 3) := by decide +kernel
theorem d_Model_newCard_27 : decode b_Model_newCard 27 = .ok (.goto (-25), 3) := by decide +kernel
theorem d_Model_newCard_30 : decode b_Model_newCard 30 = .ok (.aload_n 0, 1) := by decide +kernel
theorem d_Model_newCard_31 : decode b_Model_newCard 31 = .ok (.dup, 1) := by decide +kernel
theorem d_Model_newCard_32 : decode b_Model_newCard 32 = .ok (.getfield 62, 3) := by decide +kernel
theorem d_Model_newCard_35 : decode b_Model_newCard 35 = .ok (.iconst 1, 1) := by decide +kernel
theorem d_Model_newCard_36 : decode b_Model_newCard 36 = .ok (.iadd, 1) := by decide +kernel
theorem d_Model_newCard_37 : decode b_Model_newCard 37 = .ok (.putfield 62, 3) := by decide +kernel
theorem d_Model_newCard_40 : decode b_Model_newCard 40 = .ok (.aload_n 0, 1) := by decide +kernel
theorem d_Model_newCard_41 : decode b_Model_newCard 41 = .ok (.getfield 62, 3) := by decide +kernel
theorem d_Model_newCard_44 : decode b_Model_newCard 44 = .ok (.iconst 1, 1) := by decide +kernel
theorem d_Model_newCard_45 : decode b_Model_newCard 45 = .ok (.isub, 1) := by decide +kernel
theorem d_Model_newCard_46 : decode b_Model_newCard 46 = .ok (.ireturn, 1) := by decide +kernel
theorem v_Model_newCard : Cond.instanceMethod y_Model_newCard ∈ nm_Ts ∧ Cond.selects y_Model_newCard.cls y_Model_newCard y_Model_newCard ∈ nm_Ts ∧ Cond.initialized y_Model_newCard.cls ∈ nm_Ts ∧ Cond.code y_Model_newCard b_Model_newCard 2 (some .int) ∈ nm_Ts ∧ mz_cl1 y_Model_newCard 0 := ⟨nm_t4 155 rfl rfl, nm_s 19 rfl rfl, nm_t1 12 rfl rfl, nm_t4 156 rfl rfl, by decide +kernel⟩
def y_Model_add : MethodName := ⟨"CardOfficeModel", "add", "(II)V"⟩
abbrev b_Model_add : ByteArray := prog_14_method_13_code
def r_Model_add (c s : Nat) : Room := { frames := 0, cells := c, slots := s, locals := 0 }
theorem d_Model_add_0 : decode b_Model_add 0 = .ok (.aload_n 0, 1) := by decide +kernel
theorem d_Model_add_1 : decode b_Model_add 1 = .ok (.getfield 13, 3) := by decide +kernel
theorem d_Model_add_4 : decode b_Model_add 4 = .ok (.sipush 200, 3) := by decide +kernel
theorem d_Model_add_7 : decode b_Model_add 7 = .ok (.iload_n 1, 1) := by decide +kernel
theorem d_Model_add_8 : decode b_Model_add 8 = .ok (.imul, 1) := by decide +kernel
theorem d_Model_add_9 : decode b_Model_add 9 = .ok (.aload_n 0, 1) := by decide +kernel
theorem d_Model_add_10 : decode b_Model_add 10 = .ok (.getfield 17, 3) := by decide +kernel
theorem d_Model_add_13 : decode b_Model_add 13 = .ok (.iload_n 1, 1) := by decide +kernel
theorem d_Model_add_14 : decode b_Model_add 14 = .ok (.iaload, 1) := by decide +kernel
theorem d_Model_add_15 : decode b_Model_add 15 = .ok (.iadd, 1) := by decide +kernel
theorem d_Model_add_16 : decode b_Model_add 16 = .ok (.iload_n 2, 1) := by decide +kernel
theorem d_Model_add_17 : decode b_Model_add 17 = .ok (.i2s, 1) := by decide +kernel
theorem d_Model_add_18 : decode b_Model_add 18 = .ok (.sastore, 1) := by decide +kernel
theorem d_Model_add_19 : decode b_Model_add 19 = .ok (.aload_n 0, 1) := by decide +kernel
theorem d_Model_add_20 : decode b_Model_add 20 = .ok (.getfield 17, 3) := by decide +kernel
theorem d_Model_add_23 : decode b_Model_add 23 = .ok (.iload_n 1, 1) := by decide +kernel
theorem d_Model_add_24 : decode b_Model_add 24 = .ok (.dup2, 1) := by decide +kernel
theorem d_Model_add_25 : decode b_Model_add 25 = .ok (.iaload, 1) := by decide +kernel
theorem d_Model_add_26 : decode b_Model_add 26 = .ok (.iconst 1, 1) := by decide +kernel
theorem d_Model_add_27 : decode b_Model_add 27 = .ok (.iadd, 1) := by decide +kernel
theorem d_Model_add_28 : decode b_Model_add 28 = .ok (.iastore, 1) := by decide +kernel
theorem d_Model_add_29 : decode b_Model_add 29 = .ok (.return_, 1) := by decide +kernel
theorem v_Model_add : Cond.instanceMethod y_Model_add ∈ nm_Ts ∧ Cond.selects y_Model_add.cls y_Model_add y_Model_add ∈ nm_Ts ∧ Cond.initialized y_Model_add.cls ∈ nm_Ts ∧ Cond.code y_Model_add b_Model_add 3 none ∈ nm_Ts ∧ mz_cl1 y_Model_add 2 := ⟨nm_t4 159 rfl rfl, nm_s 20 rfl rfl, nm_t1 12 rfl rfl, nm_t4 160 rfl rfl, by decide +kernel⟩
def y_Model_wire : MethodName := ⟨"CardOfficeModel", "wire", "(III)Z"⟩
abbrev b_Model_wire : ByteArray := prog_14_method_18_code
def r_Model_wire (c s : Nat) : Room := { frames := 1, cells := c, slots := s, locals := 20 }
theorem d_Model_wire_0 : decode b_Model_wire 0 = .ok (.aload_n 0, 1) := by decide +kernel
theorem d_Model_wire_1 : decode b_Model_wire 1 = .ok (.iconst 0, 1) := by decide +kernel
theorem d_Model_wire_2 : decode b_Model_wire 2 = .ok (.putfield 52, 3) := by decide +kernel
theorem d_Model_wire_5 : decode b_Model_wire 5 = .ok (.iload_n 1, 1) := by decide +kernel
theorem d_Model_wire_6 : decode b_Model_wire 6 = .ok (.invokestatic 82, 3) := by decide +kernel
theorem d_Model_wire_9 : decode b_Model_wire 9 = .ok (.ifCond .eq 28, 3) := by decide +kernel
theorem d_Model_wire_12 : decode b_Model_wire 12 = .ok (.iload_n 2, 1) := by decide +kernel
theorem d_Model_wire_13 : decode b_Model_wire 13 = .ok (.invokestatic 85, 3) := by decide +kernel
theorem d_Model_wire_16 : decode b_Model_wire 16 = .ok (.ifCond .eq 21, 3) := by decide +kernel
theorem d_Model_wire_19 : decode b_Model_wire 19 = .ok (.iload_n 3, 1) := by decide +kernel
theorem d_Model_wire_20 : decode b_Model_wire 20 = .ok (.invokestatic 88, 3) := by decide +kernel
theorem d_Model_wire_23 : decode b_Model_wire 23 = .ok (.ifCond .eq 14, 3) := by decide +kernel
theorem d_Model_wire_26 : decode b_Model_wire 26 = .ok (.aload_n 0, 1) := by decide +kernel
theorem d_Model_wire_27 : decode b_Model_wire 27 = .ok (.getfield 33, 3) := by decide +kernel
theorem d_Model_wire_30 : decode b_Model_wire 30 = .ok (.iload_n 1, 1) := by decide +kernel
theorem d_Model_wire_31 : decode b_Model_wire 31 = .ok (.iaload, 1) := by decide +kernel
theorem d_Model_wire_32 : decode b_Model_wire 32 = .ok (.bipush 40, 2) := by decide +kernel
theorem d_Model_wire_34 : decode b_Model_wire 34 = .ok (.if_icmp .ne 5, 3) := by decide +kernel
theorem d_Model_wire_37 : decode b_Model_wire 37 = .ok (.iconst 0, 1) := by decide +kernel
theorem d_Model_wire_38 : decode b_Model_wire 38 = .ok (.ireturn, 1) := by decide +kernel
theorem d_Model_wire_39 : decode b_Model_wire 39 = .ok (.bipush 40, 2) := by decide +kernel
theorem d_Model_wire_41 : decode b_Model_wire 41 = .ok (.iload_n 1, 1) := by decide +kernel
theorem d_Model_wire_42 : decode b_Model_wire 42 = .ok (.imul, 1) := by decide +kernel
theorem d_Model_wire_43 : decode b_Model_wire 43 = .ok (.istore 4, 2) := by decide +kernel
theorem d_Model_wire_45 : decode b_Model_wire 45 = .ok (.iload 4, 2) := by decide +kernel
theorem d_Model_wire_47 : decode b_Model_wire 47 = .ok (.bipush 40, 2) := by decide +kernel
theorem d_Model_wire_49 : decode b_Model_wire 49 = .ok (.iload_n 1, 1) := by decide +kernel
theorem d_Model_wire_50 : decode b_Model_wire 50 = .ok (.imul, 1) := by decide +kernel
theorem d_Model_wire_51 : decode b_Model_wire 51 = .ok (.aload_n 0, 1) := by decide +kernel
theorem d_Model_wire_52 : decode b_Model_wire 52 = .ok (.getfield 33, 3) := by decide +kernel
theorem d_Model_wire_55 : decode b_Model_wire 55 = .ok (.iload_n 1, 1) := by decide +kernel
theorem d_Model_wire_56 : decode b_Model_wire 56 = .ok (.iaload, 1) := by decide +kernel
theorem d_Model_wire_57 : decode b_Model_wire 57 = .ok (.iadd, 1) := by decide +kernel
theorem d_Model_wire_58 : decode b_Model_wire 58 = .ok (.if_icmp .ge 33, 3) := by decide +kernel
theorem d_Model_wire_61 : decode b_Model_wire 61 = .ok (.aload_n 0, 1) := by decide +kernel
theorem d_Model_wire_62 : decode b_Model_wire 62 = .ok (.getfield 27, 3) := by decide +kernel
theorem d_Model_wire_65 : decode b_Model_wire 65 = .ok (.iload 4, 2) := by decide +kernel
theorem d_Model_wire_67 : decode b_Model_wire 67 = .ok (.baload, 1) := by decide +kernel
theorem d_Model_wire_68 : decode b_Model_wire 68 = .ok (.iload_n 2, 1) := by decide +kernel
theorem d_Model_wire_69 : decode b_Model_wire 69 = .ok (.if_icmp .ne 16, 3) := by decide +kernel
theorem d_Model_wire_72 : decode b_Model_wire 72 = .ok (.aload_n 0, 1) := by decide +kernel
theorem d_Model_wire_73 : decode b_Model_wire 73 = .ok (.getfield 30, 3) := by decide +kernel
theorem d_Model_wire_76 : decode b_Model_wire 76 = .ok (.iload 4, 2) := by decide +kernel
theorem d_Model_wire_78 : decode b_Model_wire 78 = .ok (.baload, 1) := by decide +kernel
theorem d_Model_wire_79 : decode b_Model_wire 79 = .ok (.iload_n 3, 1) := by decide +kernel
theorem d_Model_wire_80 : decode b_Model_wire 80 = .ok (.if_icmp .ne 5, 3) := by decide +kernel
theorem d_Model_wire_83 : decode b_Model_wire 83 = .ok (.iconst 0, 1) := by decide +kernel
theorem d_Model_wire_84 : decode b_Model_wire 84 = .ok (.ireturn, 1) := by decide +kernel
theorem d_Model_wire_85 : decode b_Model_wire 85 = .ok (.iinc 4 1, 3) := by decide +kernel
theorem d_Model_wire_88 : decode b_Model_wire 88 = .ok (.goto (-43), 3) := by decide +kernel
theorem d_Model_wire_91 : decode b_Model_wire 91 = .ok (.aload_n 0, 1) := by decide +kernel
theorem d_Model_wire_92 : decode b_Model_wire 92 = .ok (.getfield 27, 3) := by decide +kernel
theorem d_Model_wire_95 : decode b_Model_wire 95 = .ok (.bipush 40, 2) := by decide +kernel
theorem d_Model_wire_97 : decode b_Model_wire 97 = .ok (.iload_n 1, 1) := by decide +kernel
theorem d_Model_wire_98 : decode b_Model_wire 98 = .ok (.imul, 1) := by decide +kernel
theorem d_Model_wire_99 : decode b_Model_wire 99 = .ok (.aload_n 0, 1) := by decide +kernel
theorem d_Model_wire_100 : decode b_Model_wire 100 = .ok (.getfield 33, 3) := by decide +kernel
theorem d_Model_wire_103 : decode b_Model_wire 103 = .ok (.iload_n 1, 1) := by decide +kernel
theorem d_Model_wire_104 : decode b_Model_wire 104 = .ok (.iaload, 1) := by decide +kernel
theorem d_Model_wire_105 : decode b_Model_wire 105 = .ok (.iadd, 1) := by decide +kernel
theorem d_Model_wire_106 : decode b_Model_wire 106 = .ok (.iload_n 2, 1) := by decide +kernel
theorem d_Model_wire_107 : decode b_Model_wire 107 = .ok (.i2b, 1) := by decide +kernel
theorem d_Model_wire_108 : decode b_Model_wire 108 = .ok (.bastore, 1) := by decide +kernel
theorem d_Model_wire_109 : decode b_Model_wire 109 = .ok (.aload_n 0, 1) := by decide +kernel
theorem d_Model_wire_110 : decode b_Model_wire 110 = .ok (.getfield 30, 3) := by decide +kernel
theorem d_Model_wire_113 : decode b_Model_wire 113 = .ok (.bipush 40, 2) := by decide +kernel
theorem d_Model_wire_115 : decode b_Model_wire 115 = .ok (.iload_n 1, 1) := by decide +kernel
theorem d_Model_wire_116 : decode b_Model_wire 116 = .ok (.imul, 1) := by decide +kernel
theorem d_Model_wire_117 : decode b_Model_wire 117 = .ok (.aload_n 0, 1) := by decide +kernel
theorem d_Model_wire_118 : decode b_Model_wire 118 = .ok (.getfield 33, 3) := by decide +kernel
theorem d_Model_wire_121 : decode b_Model_wire 121 = .ok (.iload_n 1, 1) := by decide +kernel
theorem d_Model_wire_122 : decode b_Model_wire 122 = .ok (.iaload, 1) := by decide +kernel
theorem d_Model_wire_123 : decode b_Model_wire 123 = .ok (.iadd, 1) := by decide +kernel
theorem d_Model_wire_124 : decode b_Model_wire 124 = .ok (.iload_n 3, 1) := by decide +kernel
theorem d_Model_wire_125 : decode b_Model_wire 125 = .ok (.i2b, 1) := by decide +kernel
theorem d_Model_wire_126 : decode b_Model_wire 126 = .ok (.bastore, 1) := by decide +kernel
theorem d_Model_wire_127 : decode b_Model_wire 127 = .ok (.aload_n 0, 1) := by decide +kernel
theorem d_Model_wire_128 : decode b_Model_wire 128 = .ok (.getfield 33, 3) := by decide +kernel
theorem d_Model_wire_131 : decode b_Model_wire 131 = .ok (.iload_n 1, 1) := by decide +kernel
theorem d_Model_wire_132 : decode b_Model_wire 132 = .ok (.dup2, 1) := by decide +kernel
theorem d_Model_wire_133 : decode b_Model_wire 133 = .ok (.iaload, 1) := by decide +kernel
theorem d_Model_wire_134 : decode b_Model_wire 134 = .ok (.iconst 1, 1) := by decide +kernel
theorem d_Model_wire_135 : decode b_Model_wire 135 = .ok (.iadd, 1) := by decide +kernel
theorem d_Model_wire_136 : decode b_Model_wire 136 = .ok (.iastore, 1) := by decide +kernel
theorem d_Model_wire_137 : decode b_Model_wire 137 = .ok (.iconst 1, 1) := by decide +kernel
theorem d_Model_wire_138 : decode b_Model_wire 138 = .ok (.ireturn, 1) := by decide +kernel
theorem v_Model_wire : Cond.instanceMethod y_Model_wire ∈ nm_Ts ∧ Cond.selects y_Model_wire.cls y_Model_wire y_Model_wire ∈ nm_Ts ∧ Cond.initialized y_Model_wire.cls ∈ nm_Ts ∧ Cond.code y_Model_wire b_Model_wire 5 (some .boolean) ∈ nm_Ts ∧ mz_cl1 y_Model_wire 3 := ⟨nm_t4 162 rfl rfl, nm_t4 163 rfl rfl, nm_t1 12 rfl rfl, nm_t4 164 rfl rfl, by decide +kernel⟩
def y_Model_isBoard : MethodName := ⟨"CardOfficeModel", "isBoard", "(I)Z"⟩
abbrev b_Model_isBoard : ByteArray := prog_14_method_12_code
def r_Model_isBoard (c s : Nat) : Room := { frames := 0, cells := c, slots := s, locals := 0 }
theorem d_Model_isBoard_0 : decode b_Model_isBoard 0 = .ok (.iload_n 0, 1) := by decide +kernel
theorem d_Model_isBoard_1 : decode b_Model_isBoard 1 = .ok (.ifCond .lt 12, 3) := by decide +kernel
theorem d_Model_isBoard_4 : decode b_Model_isBoard 4 = .ok (.iload_n 0, 1) := by decide +kernel
theorem d_Model_isBoard_5 : decode b_Model_isBoard 5 = .ok (.iconst 4, 1) := by decide +kernel
theorem d_Model_isBoard_6 : decode b_Model_isBoard 6 = .ok (.if_icmp .ge 7, 3) := by decide +kernel
theorem d_Model_isBoard_9 : decode b_Model_isBoard 9 = .ok (.iconst 1, 1) := by decide +kernel
theorem d_Model_isBoard_10 : decode b_Model_isBoard 10 = .ok (.goto 4, 3) := by decide +kernel
theorem d_Model_isBoard_13 : decode b_Model_isBoard 13 = .ok (.iconst 0, 1) := by decide +kernel
theorem d_Model_isBoard_14 : decode b_Model_isBoard 14 = .ok (.ireturn, 1) := by decide +kernel
theorem s_Model_isBoard : Cond.static y_Model_isBoard ∈ nm_Ts ∧ Cond.initialized y_Model_isBoard.cls ∈ nm_Ts ∧ Cond.code y_Model_isBoard b_Model_isBoard 1 (some .boolean) ∈ nm_Ts ∧ mz_cl1 y_Model_isBoard 1 := ⟨nm_t4 166 rfl rfl, nm_t1 12 rfl rfl, nm_t4 167 rfl rfl, by decide +kernel⟩
def y_Model_isFrom : MethodName := ⟨"CardOfficeModel", "isFrom", "(I)Z"⟩
abbrev b_Model_isFrom : ByteArray := prog_14_method_16_code
def r_Model_isFrom (c s : Nat) : Room := { frames := 0, cells := c, slots := s, locals := 0 }
theorem d_Model_isFrom_0 : decode b_Model_isFrom 0 = .ok (.iload_n 0, 1) := by decide +kernel
theorem d_Model_isFrom_1 : decode b_Model_isFrom 1 = .ok (.ifCond .lt 9, 3) := by decide +kernel
theorem d_Model_isFrom_4 : decode b_Model_isFrom 4 = .ok (.iload_n 0, 1) := by decide +kernel
theorem d_Model_isFrom_5 : decode b_Model_isFrom 5 = .ok (.bipush 26, 2) := by decide +kernel
theorem d_Model_isFrom_7 : decode b_Model_isFrom 7 = .ok (.if_icmp .lt 15, 3) := by decide +kernel
theorem d_Model_isFrom_10 : decode b_Model_isFrom 10 = .ok (.iload_n 0, 1) := by decide +kernel
theorem d_Model_isFrom_11 : decode b_Model_isFrom 11 = .ok (.bipush 32, 2) := by decide +kernel
theorem d_Model_isFrom_13 : decode b_Model_isFrom 13 = .ok (.if_icmp .lt 13, 3) := by decide +kernel
theorem d_Model_isFrom_16 : decode b_Model_isFrom 16 = .ok (.iload_n 0, 1) := by decide +kernel
theorem d_Model_isFrom_17 : decode b_Model_isFrom 17 = .ok (.bipush 56, 2) := by decide +kernel
theorem d_Model_isFrom_19 : decode b_Model_isFrom 19 = .ok (.if_icmp .ge 7, 3) := by decide +kernel
theorem d_Model_isFrom_22 : decode b_Model_isFrom 22 = .ok (.iconst 1, 1) := by decide +kernel
theorem d_Model_isFrom_23 : decode b_Model_isFrom 23 = .ok (.goto 4, 3) := by decide +kernel
theorem d_Model_isFrom_26 : decode b_Model_isFrom 26 = .ok (.iconst 0, 1) := by decide +kernel
theorem d_Model_isFrom_27 : decode b_Model_isFrom 27 = .ok (.ireturn, 1) := by decide +kernel
theorem s_Model_isFrom : Cond.static y_Model_isFrom ∈ nm_Ts ∧ Cond.initialized y_Model_isFrom.cls ∈ nm_Ts ∧ Cond.code y_Model_isFrom b_Model_isFrom 1 (some .boolean) ∈ nm_Ts ∧ mz_cl1 y_Model_isFrom 1 := ⟨nm_t4 169 rfl rfl, nm_t1 12 rfl rfl, nm_t4 170 rfl rfl, by decide +kernel⟩
def y_Model_isTo : MethodName := ⟨"CardOfficeModel", "isTo", "(I)Z"⟩
abbrev b_Model_isTo : ByteArray := prog_14_method_17_code
def r_Model_isTo (c s : Nat) : Room := { frames := 0, cells := c, slots := s, locals := 0 }
theorem d_Model_isTo_0 : decode b_Model_isTo 0 = .ok (.iload_n 0, 1) := by decide +kernel
theorem d_Model_isTo_1 : decode b_Model_isTo 1 = .ok (.ifCond .lt 9, 3) := by decide +kernel
theorem d_Model_isTo_4 : decode b_Model_isTo 4 = .ok (.iload_n 0, 1) := by decide +kernel
theorem d_Model_isTo_5 : decode b_Model_isTo 5 = .ok (.bipush 16, 2) := by decide +kernel
theorem d_Model_isTo_7 : decode b_Model_isTo 7 = .ok (.if_icmp .lt 39, 3) := by decide +kernel
theorem d_Model_isTo_10 : decode b_Model_isTo 10 = .ok (.iload_n 0, 1) := by decide +kernel
theorem d_Model_isTo_11 : decode b_Model_isTo 11 = .ok (.bipush 32, 2) := by decide +kernel
theorem d_Model_isTo_13 : decode b_Model_isTo 13 = .ok (.if_icmp .lt 9, 3) := by decide +kernel
theorem d_Model_isTo_16 : decode b_Model_isTo 16 = .ok (.iload_n 0, 1) := by decide +kernel
theorem d_Model_isTo_17 : decode b_Model_isTo 17 = .ok (.bipush 56, 2) := by decide +kernel
theorem d_Model_isTo_19 : decode b_Model_isTo 19 = .ok (.if_icmp .lt 27, 3) := by decide +kernel
theorem d_Model_isTo_22 : decode b_Model_isTo 22 = .ok (.iload_n 0, 1) := by decide +kernel
theorem d_Model_isTo_23 : decode b_Model_isTo 23 = .ok (.bipush 64, 2) := by decide +kernel
theorem d_Model_isTo_25 : decode b_Model_isTo 25 = .ok (.if_icmp .lt 9, 3) := by decide +kernel
theorem d_Model_isTo_28 : decode b_Model_isTo 28 = .ok (.iload_n 0, 1) := by decide +kernel
theorem d_Model_isTo_29 : decode b_Model_isTo 29 = .ok (.bipush 88, 2) := by decide +kernel
theorem d_Model_isTo_31 : decode b_Model_isTo 31 = .ok (.if_icmp .lt 15, 3) := by decide +kernel
theorem d_Model_isTo_34 : decode b_Model_isTo 34 = .ok (.iload_n 0, 1) := by decide +kernel
theorem d_Model_isTo_35 : decode b_Model_isTo 35 = .ok (.bipush 96, 2) := by decide +kernel
theorem d_Model_isTo_37 : decode b_Model_isTo 37 = .ok (.if_icmp .lt 13, 3) := by decide +kernel
theorem d_Model_isTo_40 : decode b_Model_isTo 40 = .ok (.iload_n 0, 1) := by decide +kernel
theorem d_Model_isTo_41 : decode b_Model_isTo 41 = .ok (.bipush 100, 2) := by decide +kernel
theorem d_Model_isTo_43 : decode b_Model_isTo 43 = .ok (.if_icmp .ge 7, 3) := by decide +kernel
theorem d_Model_isTo_46 : decode b_Model_isTo 46 = .ok (.iconst 1, 1) := by decide +kernel
theorem d_Model_isTo_47 : decode b_Model_isTo 47 = .ok (.goto 4, 3) := by decide +kernel
theorem d_Model_isTo_50 : decode b_Model_isTo 50 = .ok (.iconst 0, 1) := by decide +kernel
theorem d_Model_isTo_51 : decode b_Model_isTo 51 = .ok (.ireturn, 1) := by decide +kernel
theorem s_Model_isTo : Cond.static y_Model_isTo ∈ nm_Ts ∧ Cond.initialized y_Model_isTo.cls ∈ nm_Ts ∧ Cond.code y_Model_isTo b_Model_isTo 1 (some .boolean) ∈ nm_Ts ∧ mz_cl1 y_Model_isTo 1 := ⟨nm_t4 172 rfl rfl, nm_t1 12 rfl rfl, nm_t4 173 rfl rfl, by decide +kernel⟩
def y_Model_strip : MethodName := ⟨"CardOfficeModel", "strip", "(I)I"⟩
abbrev b_Model_strip : ByteArray := prog_14_method_19_code
def r_Model_strip (c s : Nat) : Room := { frames := 1, cells := c, slots := s, locals := 20 }
theorem d_Model_strip_0 : decode b_Model_strip 0 = .ok (.aload_n 0, 1) := by decide +kernel
theorem d_Model_strip_1 : decode b_Model_strip 1 = .ok (.iconst 0, 1) := by decide +kernel
theorem d_Model_strip_2 : decode b_Model_strip 2 = .ok (.putfield 52, 3) := by decide +kernel
theorem d_Model_strip_5 : decode b_Model_strip 5 = .ok (.iload_n 1, 1) := by decide +kernel
theorem d_Model_strip_6 : decode b_Model_strip 6 = .ok (.invokestatic 82, 3) := by decide +kernel
theorem d_Model_strip_9 : decode b_Model_strip 9 = .ok (.ifCond .ne 5, 3) := by decide +kernel
theorem d_Model_strip_12 : decode b_Model_strip 12 = .ok (.iconst (-1), 1) := by decide +kernel
theorem d_Model_strip_13 : decode b_Model_strip 13 = .ok (.ireturn, 1) := by decide +kernel
theorem d_Model_strip_14 : decode b_Model_strip 14 = .ok (.aload_n 0, 1) := by decide +kernel
theorem d_Model_strip_15 : decode b_Model_strip 15 = .ok (.getfield 33, 3) := by decide +kernel
theorem d_Model_strip_18 : decode b_Model_strip 18 = .ok (.iload_n 1, 1) := by decide +kernel
theorem d_Model_strip_19 : decode b_Model_strip 19 = .ok (.iaload, 1) := by decide +kernel
theorem d_Model_strip_20 : decode b_Model_strip 20 = .ok (.istore_n 2, 1) := by decide +kernel
theorem d_Model_strip_21 : decode b_Model_strip 21 = .ok (.aload_n 0, 1) := by decide +kernel
theorem d_Model_strip_22 : decode b_Model_strip 22 = .ok (.getfield 33, 3) := by decide +kernel
theorem d_Model_strip_25 : decode b_Model_strip 25 = .ok (.iload_n 1, 1) := by decide +kernel
theorem d_Model_strip_26 : decode b_Model_strip 26 = .ok (.iconst 0, 1) := by decide +kernel
theorem d_Model_strip_27 : decode b_Model_strip 27 = .ok (.iastore, 1) := by decide +kernel
theorem d_Model_strip_28 : decode b_Model_strip 28 = .ok (.iconst 0, 1) := by decide +kernel
theorem d_Model_strip_29 : decode b_Model_strip 29 = .ok (.istore_n 3, 1) := by decide +kernel
theorem d_Model_strip_30 : decode b_Model_strip 30 = .ok (.iload_n 3, 1) := by decide +kernel
theorem d_Model_strip_31 : decode b_Model_strip 31 = .ok (.iconst 4, 1) := by decide +kernel
theorem d_Model_strip_32 : decode b_Model_strip 32 = .ok (.if_icmp .ge 20, 3) := by decide +kernel
theorem d_Model_strip_35 : decode b_Model_strip 35 = .ok (.aload_n 0, 1) := by decide +kernel
theorem d_Model_strip_36 : decode b_Model_strip 36 = .ok (.getfield 36, 3) := by decide +kernel
theorem d_Model_strip_39 : decode b_Model_strip 39 = .ok (.iconst 4, 1) := by decide +kernel
theorem d_Model_strip_40 : decode b_Model_strip 40 = .ok (.iload_n 1, 1) := by decide +kernel
theorem d_Model_strip_41 : decode b_Model_strip 41 = .ok (.imul, 1) := by decide +kernel
theorem d_Model_strip_42 : decode b_Model_strip 42 = .ok (.iload_n 3, 1) := by decide +kernel
theorem d_Model_strip_43 : decode b_Model_strip 43 = .ok (.iadd, 1) := by decide +kernel
theorem d_Model_strip_44 : decode b_Model_strip 44 = .ok (.iconst 3, 1) := by decide +kernel
theorem d_Model_strip_45 : decode b_Model_strip 45 = .ok (.iastore, 1) := by decide +kernel
theorem d_Model_strip_46 : decode b_Model_strip 46 = .ok (.iinc 3 1, 3) := by decide +kernel
theorem d_Model_strip_49 : decode b_Model_strip 49 = .ok (.goto (-19), 3) := by decide +kernel
theorem d_Model_strip_52 : decode b_Model_strip 52 = .ok (.iload_n 2, 1) := by decide +kernel
theorem d_Model_strip_53 : decode b_Model_strip 53 = .ok (.ireturn, 1) := by decide +kernel
theorem v_Model_strip : Cond.instanceMethod y_Model_strip ∈ nm_Ts ∧ Cond.selects y_Model_strip.cls y_Model_strip y_Model_strip ∈ nm_Ts ∧ Cond.initialized y_Model_strip.cls ∈ nm_Ts ∧ Cond.code y_Model_strip b_Model_strip 4 (some .int) ∈ nm_Ts ∧ mz_cl1 y_Model_strip 1 := ⟨nm_t4 175 rfl rfl, nm_t4 176 rfl rfl, nm_t1 12 rfl rfl, nm_t4 177 rfl rfl, by decide +kernel⟩
def y_Model_level : MethodName := ⟨"CardOfficeModel", "level", "(III)Z"⟩
abbrev b_Model_level : ByteArray := prog_14_method_20_code
def r_Model_level (c s : Nat) : Room := { frames := 1, cells := c, slots := s, locals := 20 }
theorem d_Model_level_0 : decode b_Model_level 0 = .ok (.aload_n 0, 1) := by decide +kernel
theorem d_Model_level_1 : decode b_Model_level 1 = .ok (.iconst 0, 1) := by decide +kernel
theorem d_Model_level_2 : decode b_Model_level 2 = .ok (.putfield 52, 3) := by decide +kernel
theorem d_Model_level_5 : decode b_Model_level 5 = .ok (.iload_n 1, 1) := by decide +kernel
theorem d_Model_level_6 : decode b_Model_level 6 = .ok (.invokestatic 82, 3) := by decide +kernel
theorem d_Model_level_9 : decode b_Model_level 9 = .ok (.ifCond .eq 21, 3) := by decide +kernel
theorem d_Model_level_12 : decode b_Model_level 12 = .ok (.iload_n 2, 1) := by decide +kernel
theorem d_Model_level_13 : decode b_Model_level 13 = .ok (.ifCond .lt 17, 3) := by decide +kernel
theorem d_Model_level_16 : decode b_Model_level 16 = .ok (.iload_n 2, 1) := by decide +kernel
theorem d_Model_level_17 : decode b_Model_level 17 = .ok (.iconst 3, 1) := by decide +kernel
theorem d_Model_level_18 : decode b_Model_level 18 = .ok (.if_icmp .gt 12, 3) := by decide +kernel
theorem d_Model_level_21 : decode b_Model_level 21 = .ok (.iload_n 3, 1) := by decide +kernel
theorem d_Model_level_22 : decode b_Model_level 22 = .ok (.ifCond .lt 8, 3) := by decide +kernel
theorem d_Model_level_25 : decode b_Model_level 25 = .ok (.iload_n 3, 1) := by decide +kernel
theorem d_Model_level_26 : decode b_Model_level 26 = .ok (.iconst 3, 1) := by decide +kernel
theorem d_Model_level_27 : decode b_Model_level 27 = .ok (.if_icmp .le 5, 3) := by decide +kernel
theorem d_Model_level_30 : decode b_Model_level 30 = .ok (.iconst 0, 1) := by decide +kernel
theorem d_Model_level_31 : decode b_Model_level 31 = .ok (.ireturn, 1) := by decide +kernel
theorem d_Model_level_32 : decode b_Model_level 32 = .ok (.aload_n 0, 1) := by decide +kernel
theorem d_Model_level_33 : decode b_Model_level 33 = .ok (.getfield 36, 3) := by decide +kernel
theorem d_Model_level_36 : decode b_Model_level 36 = .ok (.iconst 4, 1) := by decide +kernel
theorem d_Model_level_37 : decode b_Model_level 37 = .ok (.iload_n 1, 1) := by decide +kernel
theorem d_Model_level_38 : decode b_Model_level 38 = .ok (.imul, 1) := by decide +kernel
theorem d_Model_level_39 : decode b_Model_level 39 = .ok (.iload_n 2, 1) := by decide +kernel
theorem d_Model_level_40 : decode b_Model_level 40 = .ok (.iadd, 1) := by decide +kernel
theorem d_Model_level_41 : decode b_Model_level 41 = .ok (.iload_n 3, 1) := by decide +kernel
theorem d_Model_level_42 : decode b_Model_level 42 = .ok (.iastore, 1) := by decide +kernel
theorem d_Model_level_43 : decode b_Model_level 43 = .ok (.iconst 1, 1) := by decide +kernel
theorem d_Model_level_44 : decode b_Model_level 44 = .ok (.ireturn, 1) := by decide +kernel
theorem v_Model_level : Cond.instanceMethod y_Model_level ∈ nm_Ts ∧ Cond.selects y_Model_level.cls y_Model_level y_Model_level ∈ nm_Ts ∧ Cond.initialized y_Model_level.cls ∈ nm_Ts ∧ Cond.code y_Model_level b_Model_level 4 (some .boolean) ∈ nm_Ts ∧ mz_cl1 y_Model_level 3 := ⟨nm_t4 179 rfl rfl, nm_t4 180 rfl rfl, nm_t1 12 rfl rfl, nm_t4 181 rfl rfl, by decide +kernel⟩
def y_Model_pass : MethodName := ⟨"CardOfficeModel", "pass", "(IIZ)I"⟩
abbrev b_Model_pass : ByteArray := prog_14_method_25_code
def r_Model_pass (c s : Nat) : Room := { frames := 3, cells := c, slots := s, locals := 73 }
theorem d_Model_pass_0 : decode b_Model_pass 0 = .ok (.aload_n 0, 1) := by decide +kernel
theorem d_Model_pass_1 : decode b_Model_pass 1 = .ok (.iload_n 1, 1) := by decide +kernel
theorem d_Model_pass_2 : decode b_Model_pass 2 = .ok (.invokestatic 65, 3) := by decide +kernel
theorem d_Model_pass_5 : decode b_Model_pass 5 = .ok (.ifCond .eq 14, 3) := by decide +kernel
theorem d_Model_pass_8 : decode b_Model_pass 8 = .ok (.iload_n 2, 1) := by decide +kernel
theorem d_Model_pass_9 : decode b_Model_pass 9 = .ok (.invokestatic 108, 3) := by decide +kernel
theorem d_Model_pass_12 : decode b_Model_pass 12 = .ok (.ifCond .eq 7, 3) := by decide +kernel
theorem d_Model_pass_15 : decode b_Model_pass 15 = .ok (.iconst 0, 1) := by decide +kernel
theorem d_Model_pass_16 : decode b_Model_pass 16 = .ok (.goto 4, 3) := by decide +kernel
theorem d_Model_pass_19 : decode b_Model_pass 19 = .ok (.iconst 1, 1) := by decide +kernel
theorem d_Model_pass_20 : decode b_Model_pass 20 = .ok (.putfield 52, 3) := by decide +kernel
theorem d_Model_pass_23 : decode b_Model_pass 23 = .ok (.aload_n 0, 1) := by decide +kernel
theorem d_Model_pass_24 : decode b_Model_pass 24 = .ok (.getfield 52, 3) := by decide +kernel
theorem d_Model_pass_27 : decode b_Model_pass 27 = .ok (.ifCond .le 7, 3) := by decide +kernel
theorem d_Model_pass_30 : decode b_Model_pass 30 = .ok (.iconst 0, 1) := by decide +kernel
theorem d_Model_pass_31 : decode b_Model_pass 31 = .ok (.goto 10, 3) := by decide +kernel
theorem d_Model_pass_34 : decode b_Model_pass 34 = .ok (.aload_n 0, 1) := by decide +kernel
theorem d_Model_pass_35 : decode b_Model_pass 35 = .ok (.iload_n 1, 1) := by decide +kernel
theorem d_Model_pass_36 : decode b_Model_pass 36 = .ok (.iload_n 2, 1) := by decide +kernel
theorem d_Model_pass_37 : decode b_Model_pass 37 = .ok (.iload_n 3, 1) := by decide +kernel
theorem d_Model_pass_38 : decode b_Model_pass 38 = .ok (.invokevirtual 111, 3) := by decide +kernel
theorem d_Model_pass_41 : decode b_Model_pass 41 = .ok (.ireturn, 1) := by decide +kernel
theorem v_Model_pass : Cond.instanceMethod y_Model_pass ∈ nm_Ts ∧ Cond.selects y_Model_pass.cls y_Model_pass y_Model_pass ∈ nm_Ts ∧ Cond.initialized y_Model_pass.cls ∈ nm_Ts ∧ Cond.code y_Model_pass b_Model_pass 4 (some .int) ∈ nm_Ts ∧ mz_cl1 y_Model_pass 3 := ⟨nm_t4 183 rfl rfl, nm_t4 184 rfl rfl, nm_t1 12 rfl rfl, nm_t4 185 rfl rfl, by decide +kernel⟩
def y_Model_isColumn : MethodName := ⟨"CardOfficeModel", "isColumn", "(I)Z"⟩
abbrev b_Model_isColumn : ByteArray := prog_14_method_10_code
def r_Model_isColumn (c s : Nat) : Room := { frames := 0, cells := c, slots := s, locals := 0 }
theorem d_Model_isColumn_0 : decode b_Model_isColumn 0 = .ok (.iload_n 0, 1) := by decide +kernel
theorem d_Model_isColumn_1 : decode b_Model_isColumn 1 = .ok (.ifCond .lt 13, 3) := by decide +kernel
theorem d_Model_isColumn_4 : decode b_Model_isColumn 4 = .ok (.iload_n 0, 1) := by decide +kernel
theorem d_Model_isColumn_5 : decode b_Model_isColumn 5 = .ok (.bipush 16, 2) := by decide +kernel
theorem d_Model_isColumn_7 : decode b_Model_isColumn 7 = .ok (.if_icmp .ge 7, 3) := by decide +kernel
theorem d_Model_isColumn_10 : decode b_Model_isColumn 10 = .ok (.iconst 1, 1) := by decide +kernel
theorem d_Model_isColumn_11 : decode b_Model_isColumn 11 = .ok (.goto 4, 3) := by decide +kernel
theorem d_Model_isColumn_14 : decode b_Model_isColumn 14 = .ok (.iconst 0, 1) := by decide +kernel
theorem d_Model_isColumn_15 : decode b_Model_isColumn 15 = .ok (.ireturn, 1) := by decide +kernel
theorem s_Model_isColumn : Cond.static y_Model_isColumn ∈ nm_Ts ∧ Cond.initialized y_Model_isColumn.cls ∈ nm_Ts ∧ Cond.code y_Model_isColumn b_Model_isColumn 1 (some .boolean) ∈ nm_Ts ∧ mz_cl1 y_Model_isColumn 1 := ⟨nm_t4 187 rfl rfl, nm_t1 12 rfl rfl, nm_t4 188 rfl rfl, by decide +kernel⟩
def y_Model_sift : MethodName := ⟨"CardOfficeModel", "sift", "(IIZ)I"⟩
abbrev b_Model_sift : ByteArray := prog_14_method_24_code
def r_Model_sift (c s : Nat) : Room := { frames := 2, cells := c, slots := s, locals := 45 }
theorem d_Model_sift_0 : decode b_Model_sift 0 = .ok (.iconst 0, 1) := by decide +kernel
theorem d_Model_sift_1 : decode b_Model_sift 1 = .ok (.istore 4, 2) := by decide +kernel
theorem d_Model_sift_3 : decode b_Model_sift 3 = .ok (.iconst 0, 1) := by decide +kernel
theorem d_Model_sift_4 : decode b_Model_sift 4 = .ok (.istore 5, 2) := by decide +kernel
theorem d_Model_sift_6 : decode b_Model_sift 6 = .ok (.iconst 0, 1) := by decide +kernel
theorem d_Model_sift_7 : decode b_Model_sift 7 = .ok (.istore 6, 2) := by decide +kernel
theorem d_Model_sift_9 : decode b_Model_sift 9 = .ok (.iload 6, 2) := by decide +kernel
theorem d_Model_sift_11 : decode b_Model_sift 11 = .ok (.bipush 11, 2) := by decide +kernel
theorem d_Model_sift_13 : decode b_Model_sift 13 = .ok (.if_icmp .ge 86, 3) := by decide +kernel
theorem d_Model_sift_16 : decode b_Model_sift 16 = .ok (.iload 4, 2) := by decide +kernel
theorem d_Model_sift_18 : decode b_Model_sift 18 = .ok (.istore 7, 2) := by decide +kernel
theorem d_Model_sift_20 : decode b_Model_sift 20 = .ok (.iconst 0, 1) := by decide +kernel
theorem d_Model_sift_21 : decode b_Model_sift 21 = .ok (.istore 8, 2) := by decide +kernel
theorem d_Model_sift_23 : decode b_Model_sift 23 = .ok (.iload 8, 2) := by decide +kernel
theorem d_Model_sift_25 : decode b_Model_sift 25 = .ok (.aload_n 0, 1) := by decide +kernel
theorem d_Model_sift_26 : decode b_Model_sift 26 = .ok (.getfield 17, 3) := by decide +kernel
theorem d_Model_sift_29 : decode b_Model_sift 29 = .ok (.iload_n 1, 1) := by decide +kernel
theorem d_Model_sift_30 : decode b_Model_sift 30 = .ok (.iaload, 1) := by decide +kernel
theorem d_Model_sift_31 : decode b_Model_sift 31 = .ok (.if_icmp .ge 45, 3) := by decide +kernel
theorem d_Model_sift_34 : decode b_Model_sift 34 = .ok (.aload_n 0, 1) := by decide +kernel
theorem d_Model_sift_35 : decode b_Model_sift 35 = .ok (.aload_n 0, 1) := by decide +kernel
theorem d_Model_sift_36 : decode b_Model_sift 36 = .ok (.iload_n 1, 1) := by decide +kernel
theorem d_Model_sift_37 : decode b_Model_sift 37 = .ok (.iload 8, 2) := by decide +kernel
theorem d_Model_sift_39 : decode b_Model_sift 39 = .ok (.invokevirtual 98, 3) := by decide +kernel
theorem d_Model_sift_42 : decode b_Model_sift 42 = .ok (.iload_n 2, 1) := by decide +kernel
theorem d_Model_sift_43 : decode b_Model_sift 43 = .ok (.iload_n 3, 1) := by decide +kernel
theorem d_Model_sift_44 : decode b_Model_sift 44 = .ok (.invokevirtual 101, 3) := by decide +kernel
theorem d_Model_sift_47 : decode b_Model_sift 47 = .ok (.iload 6, 2) := by decide +kernel
theorem d_Model_sift_49 : decode b_Model_sift 49 = .ok (.if_icmp .ne 21, 3) := by decide +kernel
theorem d_Model_sift_52 : decode b_Model_sift 52 = .ok (.aload_n 0, 1) := by decide +kernel
theorem d_Model_sift_53 : decode b_Model_sift 53 = .ok (.getfield 21, 3) := by decide +kernel
theorem d_Model_sift_56 : decode b_Model_sift 56 = .ok (.iload 4, 2) := by decide +kernel
theorem d_Model_sift_58 : decode b_Model_sift 58 = .ok (.aload_n 0, 1) := by decide +kernel
theorem d_Model_sift_59 : decode b_Model_sift 59 = .ok (.iload_n 1, 1) := by decide +kernel
theorem d_Model_sift_60 : decode b_Model_sift 60 = .ok (.iload 8, 2) := by decide +kernel
theorem d_Model_sift_62 : decode b_Model_sift 62 = .ok (.invokevirtual 98, 3) := by decide +kernel
theorem d_Model_sift_65 : decode b_Model_sift 65 = .ok (.i2s, 1) := by decide +kernel
theorem d_Model_sift_66 : decode b_Model_sift 66 = .ok (.sastore, 1) := by decide +kernel
theorem d_Model_sift_67 : decode b_Model_sift 67 = .ok (.iinc 4 1, 3) := by decide +kernel
theorem d_Model_sift_70 : decode b_Model_sift 70 = .ok (.iinc 8 1, 3) := by decide +kernel
theorem d_Model_sift_73 : decode b_Model_sift 73 = .ok (.goto (-50), 3) := by decide +kernel
theorem d_Model_sift_76 : decode b_Model_sift 76 = .ok (.iload 5, 2) := by decide +kernel
theorem d_Model_sift_78 : decode b_Model_sift 78 = .ok (.iload 4, 2) := by decide +kernel
theorem d_Model_sift_80 : decode b_Model_sift 80 = .ok (.iload 7, 2) := by decide +kernel
theorem d_Model_sift_82 : decode b_Model_sift 82 = .ok (.if_icmp .le 7, 3) := by decide +kernel
theorem d_Model_sift_85 : decode b_Model_sift 85 = .ok (.iconst 1, 1) := by decide +kernel
theorem d_Model_sift_86 : decode b_Model_sift 86 = .ok (.goto 4, 3) := by decide +kernel
theorem d_Model_sift_89 : decode b_Model_sift 89 = .ok (.iconst 0, 1) := by decide +kernel
theorem d_Model_sift_90 : decode b_Model_sift 90 = .ok (.iadd, 1) := by decide +kernel
theorem d_Model_sift_91 : decode b_Model_sift 91 = .ok (.istore 5, 2) := by decide +kernel
theorem d_Model_sift_93 : decode b_Model_sift 93 = .ok (.iinc 6 1, 3) := by decide +kernel
theorem d_Model_sift_96 : decode b_Model_sift 96 = .ok (.goto (-87), 3) := by decide +kernel
theorem d_Model_sift_99 : decode b_Model_sift 99 = .ok (.iconst 0, 1) := by decide +kernel
theorem d_Model_sift_100 : decode b_Model_sift 100 = .ok (.istore 6, 2) := by decide +kernel
theorem d_Model_sift_102 : decode b_Model_sift 102 = .ok (.iload 6, 2) := by decide +kernel
theorem d_Model_sift_104 : decode b_Model_sift 104 = .ok (.iload 4, 2) := by decide +kernel
theorem d_Model_sift_106 : decode b_Model_sift 106 = .ok (.if_icmp .ge 29, 3) := by decide +kernel
theorem d_Model_sift_109 : decode b_Model_sift 109 = .ok (.aload_n 0, 1) := by decide +kernel
theorem d_Model_sift_110 : decode b_Model_sift 110 = .ok (.getfield 13, 3) := by decide +kernel
theorem d_Model_sift_113 : decode b_Model_sift 113 = .ok (.sipush 200, 3) := by decide +kernel
theorem d_Model_sift_116 : decode b_Model_sift 116 = .ok (.iload_n 1, 1) := by decide +kernel
theorem d_Model_sift_117 : decode b_Model_sift 117 = .ok (.imul, 1) := by decide +kernel
theorem d_Model_sift_118 : decode b_Model_sift 118 = .ok (.iload 6, 2) := by decide +kernel
theorem d_Model_sift_120 : decode b_Model_sift 120 = .ok (.iadd, 1) := by decide +kernel
theorem d_Model_sift_121 : decode b_Model_sift 121 = .ok (.aload_n 0, 1) := by decide +kernel
theorem d_Model_sift_122 : decode b_Model_sift 122 = .ok (.getfield 21, 3) := by decide +kernel
theorem d_Model_sift_125 : decode b_Model_sift 125 = .ok (.iload 6, 2) := by decide +kernel
theorem d_Model_sift_127 : decode b_Model_sift 127 = .ok (.saload, 1) := by decide +kernel
theorem d_Model_sift_128 : decode b_Model_sift 128 = .ok (.sastore, 1) := by decide +kernel
theorem d_Model_sift_129 : decode b_Model_sift 129 = .ok (.iinc 6 1, 3) := by decide +kernel
theorem d_Model_sift_132 : decode b_Model_sift 132 = .ok (.goto (-30), 3) := by decide +kernel
theorem d_Model_sift_135 : decode b_Model_sift 135 = .ok (.aload_n 0, 1) := by decide +kernel
theorem d_Model_sift_136 : decode b_Model_sift 136 = .ok (.dup, 1) := by decide +kernel
theorem d_Model_sift_137 : decode b_Model_sift 137 = .ok (.getfield 105, 3) := by decide +kernel
theorem d_Model_sift_140 : decode b_Model_sift 140 = .ok (.iconst 1, 1) := by decide +kernel
theorem d_Model_sift_141 : decode b_Model_sift 141 = .ok (.iadd, 1) := by decide +kernel
theorem d_Model_sift_142 : decode b_Model_sift 142 = .ok (.putfield 105, 3) := by decide +kernel
theorem d_Model_sift_145 : decode b_Model_sift 145 = .ok (.iload 5, 2) := by decide +kernel
theorem d_Model_sift_147 : decode b_Model_sift 147 = .ok (.ireturn, 1) := by decide +kernel
theorem d_Model_sift : decode b_Model_sift 0 = .ok (.iconst 0, 1) ∧ decode b_Model_sift 1 = .ok (.istore 4, 2) ∧ decode b_Model_sift 3 = .ok (.iconst 0, 1) ∧ decode b_Model_sift 4 = .ok (.istore 5, 2) ∧ decode b_Model_sift 6 = .ok (.iconst 0, 1) ∧ decode b_Model_sift 7 = .ok (.istore 6, 2) ∧ decode b_Model_sift 9 = .ok (.iload 6, 2) ∧ decode b_Model_sift 11 = .ok (.bipush 11, 2) ∧ decode b_Model_sift 13 = .ok (.if_icmp .ge 86, 3) ∧ decode b_Model_sift 16 = .ok (.iload 4, 2) ∧ decode b_Model_sift 18 = .ok (.istore 7, 2) ∧ decode b_Model_sift 20 = .ok (.iconst 0, 1) ∧ decode b_Model_sift 21 = .ok (.istore 8, 2) ∧ decode b_Model_sift 23 = .ok (.iload 8, 2) ∧ decode b_Model_sift 25 = .ok (.aload_n 0, 1) ∧ decode b_Model_sift 26 = .ok (.getfield 17, 3) ∧ decode b_Model_sift 29 = .ok (.iload_n 1, 1) ∧ decode b_Model_sift 30 = .ok (.iaload, 1) ∧ decode b_Model_sift 31 = .ok (.if_icmp .ge 45, 3) ∧ decode b_Model_sift 34 = .ok (.aload_n 0, 1) ∧ decode b_Model_sift 35 = .ok (.aload_n 0, 1) ∧ decode b_Model_sift 36 = .ok (.iload_n 1, 1) ∧ decode b_Model_sift 37 = .ok (.iload 8, 2) ∧ decode b_Model_sift 39 = .ok (.invokevirtual 98, 3) ∧ decode b_Model_sift 42 = .ok (.iload_n 2, 1) ∧ decode b_Model_sift 43 = .ok (.iload_n 3, 1) ∧ decode b_Model_sift 44 = .ok (.invokevirtual 101, 3) ∧ decode b_Model_sift 47 = .ok (.iload 6, 2) ∧ decode b_Model_sift 49 = .ok (.if_icmp .ne 21, 3) ∧ decode b_Model_sift 52 = .ok (.aload_n 0, 1) ∧ decode b_Model_sift 53 = .ok (.getfield 21, 3) ∧ decode b_Model_sift 56 = .ok (.iload 4, 2) ∧ decode b_Model_sift 58 = .ok (.aload_n 0, 1) ∧ decode b_Model_sift 59 = .ok (.iload_n 1, 1) ∧ decode b_Model_sift 60 = .ok (.iload 8, 2) ∧ decode b_Model_sift 62 = .ok (.invokevirtual 98, 3) ∧ decode b_Model_sift 65 = .ok (.i2s, 1) ∧ decode b_Model_sift 66 = .ok (.sastore, 1) ∧ decode b_Model_sift 67 = .ok (.iinc 4 1, 3) ∧ decode b_Model_sift 70 = .ok (.iinc 8 1, 3) ∧ decode b_Model_sift 73 = .ok (.goto (-50), 3) ∧ decode b_Model_sift 76 = .ok (.iload 5, 2) ∧ decode b_Model_sift 78 = .ok (.iload 4, 2) ∧ decode b_Model_sift 80 = .ok (.iload 7, 2) ∧ decode b_Model_sift 82 = .ok (.if_icmp .le 7, 3) ∧ decode b_Model_sift 85 = .ok (.iconst 1, 1) ∧ decode b_Model_sift 86 = .ok (.goto 4, 3) ∧ decode b_Model_sift 89 = .ok (.iconst 0, 1) ∧ decode b_Model_sift 90 = .ok (.iadd, 1) ∧ decode b_Model_sift 91 = .ok (.istore 5, 2) ∧ decode b_Model_sift 93 = .ok (.iinc 6 1, 3) ∧ decode b_Model_sift 96 = .ok (.goto (-87), 3) ∧ decode b_Model_sift 99 = .ok (.iconst 0, 1) ∧ decode b_Model_sift 100 = .ok (.istore 6, 2) ∧ decode b_Model_sift 102 = .ok (.iload 6, 2) ∧ decode b_Model_sift 104 = .ok (.iload 4, 2) ∧ decode b_Model_sift 106 = .ok (.if_icmp .ge 29, 3) ∧ decode b_Model_sift 109 = .ok (.aload_n 0, 1) ∧ decode b_Model_sift 110 = .ok (.getfield 13, 3) ∧ decode b_Model_sift 113 = .ok (.sipush 200, 3) ∧ decode b_Model_sift 116 = .ok (.iload_n 1, 1) ∧ decode b_Model_sift 117 = .ok (.imul, 1) ∧ decode b_Model_sift 118 = .ok (.iload 6, 2) ∧ decode b_Model_sift 120 = .ok (.iadd, 1) ∧ decode b_Model_sift 121 = .ok (.aload_n 0, 1) ∧ decode b_Model_sift 122 = .ok (.getfield 21, 3) ∧ decode b_Model_sift 125 = .ok (.iload 6, 2) ∧ decode b_Model_sift 127 = .ok (.saload, 1) ∧ decode b_Model_sift 128 = .ok (.sastore, 1) ∧ decode b_Model_sift 129 = .ok (.iinc 6 1, 3) ∧ decode b_Model_sift 132 = .ok (.goto (-30), 3) ∧ decode b_Model_sift 135 = .ok (.aload_n 0, 1) ∧ decode b_Model_sift 136 = .ok (.dup, 1) ∧ decode b_Model_sift 137 = .ok (.getfield 105, 3) ∧ decode b_Model_sift 140 = .ok (.iconst 1, 1) ∧ decode b_Model_sift 141 = .ok (.iadd, 1) ∧ decode b_Model_sift 142 = .ok (.putfield 105, 3) ∧ decode b_Model_sift 145 = .ok (.iload 5, 2) ∧ decode b_Model_sift 147 = .ok (.ireturn, 1) := ⟨d_Model_sift_0, d_Model_sift_1, d_Model_sift_3, d_Model_sift_4, d_Model_sift_6, d_Model_sift_7, d_Model_sift_9, d_Model_sift_11, d_Model_sift_13, d_Model_sift_16, d_Model_sift_18, d_Model_sift_20, d_Model_sift_21, d_Model_sift_23, d_Model_sift_25, d_Model_sift_26, d_Model_sift_29, d_Model_sift_30, d_Model_sift_31, d_Model_sift_34, d_Model_sift_35, d_Model_sift_36, d_Model_sift_37, d_Model_sift_39, d_Model_sift_42, d_Model_sift_43, d_Model_sift_44, d_Model_sift_47, d_Model_sift_49, d_Model_sift_52, d_Model_sift_53, d_Model_sift_56, d_Model_sift_58, d_Model_sift_59, d_Model_sift_60, d_Model_sift_62, d_Model_sift_65, d_Model_sift_66, d_Model_sift_67, d_Model_sift_70, d_Model_sift_73, d_Model_sift_76, d_Model_sift_78, d_Model_sift_80, d_Model_sift_82, d_Model_sift_85, d_Model_sift_86, d_Model_sift_89, d_Model_sift_90, d_Model_sift_91, d_Model_sift_93, d_Model_sift_96, d_Model_sift_99, d_Model_sift_100, d_Model_sift_102, d_Model_sift_104, d_Model_sift_106, d_Model_sift_109, d_Model_sift_110, d_Model_sift_113, d_Model_sift_116, d_Model_sift_117, d_Model_sift_118, d_Model_sift_120, d_Model_sift_121, d_Model_sift_122, d_Model_sift_125, d_Model_sift_127, d_Model_sift_128, d_Model_sift_129, d_Model_sift_132, d_Model_sift_135, d_Model_sift_136, d_Model_sift_137, d_Model_sift_140, d_Model_sift_141, d_Model_sift_142, d_Model_sift_145, d_Model_sift_147⟩
theorem v_Model_sift : Cond.instanceMethod y_Model_sift ∈ nm_Ts ∧ Cond.selects y_Model_sift.cls y_Model_sift y_Model_sift ∈ nm_Ts ∧ Cond.initialized y_Model_sift.cls ∈ nm_Ts ∧ Cond.code y_Model_sift b_Model_sift 9 (some .int) ∈ nm_Ts ∧ mz_cl1 y_Model_sift 3 := ⟨nm_t4 191 rfl rfl, nm_s 21 rfl rfl, nm_t1 12 rfl rfl, nm_t4 192 rfl rfl, by decide +kernel⟩
def y_Model_cardAt : MethodName := ⟨"CardOfficeModel", "cardAt", "(II)I"⟩
abbrev b_Model_cardAt : ByteArray := prog_14_method_8_code
def r_Model_cardAt (c s : Nat) : Room := { frames := 0, cells := c, slots := s, locals := 0 }
theorem d_Model_cardAt_0 : decode b_Model_cardAt 0 = .ok (.aload_n 0, 1) := by decide +kernel
theorem d_Model_cardAt_1 : decode b_Model_cardAt 1 = .ok (.getfield 13, 3) := by decide +kernel
theorem d_Model_cardAt_4 : decode b_Model_cardAt 4 = .ok (.sipush 200, 3) := by decide +kernel
theorem d_Model_cardAt_7 : decode b_Model_cardAt 7 = .ok (.iload_n 1, 1) := by decide +kernel
theorem d_Model_cardAt_8 : decode b_Model_cardAt 8 = .ok (.imul, 1) := by decide +kernel
theorem d_Model_cardAt_9 : decode b_Model_cardAt 9 = .ok (.iload_n 2, 1) := by decide +kernel
theorem d_Model_cardAt_10 : decode b_Model_cardAt 10 = .ok (.iadd, 1) := by decide +kernel
theorem d_Model_cardAt_11 : decode b_Model_cardAt 11 = .ok (.saload, 1) := by decide +kernel
theorem d_Model_cardAt_12 : decode b_Model_cardAt 12 = .ok (.ireturn, 1) := by decide +kernel
theorem v_Model_cardAt : Cond.instanceMethod y_Model_cardAt ∈ nm_Ts ∧ Cond.selects y_Model_cardAt.cls y_Model_cardAt y_Model_cardAt ∈ nm_Ts ∧ Cond.initialized y_Model_cardAt.cls ∈ nm_Ts ∧ Cond.code y_Model_cardAt b_Model_cardAt 3 (some .int) ∈ nm_Ts ∧ mz_cl1 y_Model_cardAt 2 := ⟨nm_t4 195 rfl rfl, nm_s 22 rfl rfl, nm_t1 12 rfl rfl, nm_t4 196 rfl rfl, by decide +kernel⟩
def y_Model_keyOf : MethodName := ⟨"CardOfficeModel", "keyOf", "(IIZ)I"⟩
abbrev b_Model_keyOf : ByteArray := prog_14_method_23_code
def r_Model_keyOf (c s : Nat) : Room := { frames := 1, cells := c, slots := s, locals := 22 }
theorem d_Model_keyOf_0 : decode b_Model_keyOf 0 = .ok (.iload_n 3, 1) := by decide +kernel
theorem d_Model_keyOf_1 : decode b_Model_keyOf 1 = .ok (.ifCond .eq 15, 3) := by decide +kernel
theorem d_Model_keyOf_4 : decode b_Model_keyOf 4 = .ok (.aload_n 0, 1) := by decide +kernel
theorem d_Model_keyOf_5 : decode b_Model_keyOf 5 = .ok (.iload_n 1, 1) := by decide +kernel
theorem d_Model_keyOf_6 : decode b_Model_keyOf 6 = .ok (.iload_n 2, 1) := by decide +kernel
theorem d_Model_keyOf_7 : decode b_Model_keyOf 7 = .ok (.invokevirtual 91, 3) := by decide +kernel
theorem d_Model_keyOf_10 : decode b_Model_keyOf 10 = .ok (.invokestatic 55, 3) := by decide +kernel
theorem d_Model_keyOf_13 : decode b_Model_keyOf 13 = .ok (.goto 14, 3) := by decide +kernel
theorem d_Model_keyOf_16 : decode b_Model_keyOf 16 = .ok (.aload_n 0, 1) := by decide +kernel
theorem d_Model_keyOf_17 : decode b_Model_keyOf 17 = .ok (.iload_n 1, 1) := by decide +kernel
theorem d_Model_keyOf_18 : decode b_Model_keyOf 18 = .ok (.iload_n 2, 1) := by decide +kernel
theorem d_Model_keyOf_19 : decode b_Model_keyOf 19 = .ok (.invokevirtual 91, 3) := by decide +kernel
theorem d_Model_keyOf_22 : decode b_Model_keyOf 22 = .ok (.invokestatic 59, 3) := by decide +kernel
theorem d_Model_keyOf_25 : decode b_Model_keyOf 25 = .ok (.iconst 1, 1) := by decide +kernel
theorem d_Model_keyOf_26 : decode b_Model_keyOf 26 = .ok (.iadd, 1) := by decide +kernel
theorem d_Model_keyOf_27 : decode b_Model_keyOf 27 = .ok (.ireturn, 1) := by decide +kernel
theorem v_Model_keyOf : Cond.instanceMethod y_Model_keyOf ∈ nm_Ts ∧ Cond.selects y_Model_keyOf.cls y_Model_keyOf y_Model_keyOf ∈ nm_Ts ∧ Cond.initialized y_Model_keyOf.cls ∈ nm_Ts ∧ Cond.code y_Model_keyOf b_Model_keyOf 4 (some .int) ∈ nm_Ts ∧ mz_cl1 y_Model_keyOf 3 := ⟨nm_t4 199 rfl rfl, nm_s 23 rfl rfl, nm_t1 12 rfl rfl, nm_t4 200 rfl rfl, by decide +kernel⟩
def y_Model_at : MethodName := ⟨"CardOfficeModel", "at", "(II)I"⟩
abbrev b_Model_at : ByteArray := prog_14_method_7_code
def r_Model_at (c s : Nat) : Room := { frames := 0, cells := c, slots := s, locals := 0 }
theorem d_Model_at_0 : decode b_Model_at 0 = .ok (.aload_n 0, 1) := by decide +kernel
theorem d_Model_at_1 : decode b_Model_at 1 = .ok (.getfield 7, 3) := by decide +kernel
theorem d_Model_at_4 : decode b_Model_at 4 = .ok (.bipush 16, 2) := by decide +kernel
theorem d_Model_at_6 : decode b_Model_at 6 = .ok (.iload_n 1, 1) := by decide +kernel
theorem d_Model_at_7 : decode b_Model_at 7 = .ok (.imul, 1) := by decide +kernel
theorem d_Model_at_8 : decode b_Model_at 8 = .ok (.iload_n 2, 1) := by decide +kernel
theorem d_Model_at_9 : decode b_Model_at 9 = .ok (.iadd, 1) := by decide +kernel
theorem d_Model_at_10 : decode b_Model_at 10 = .ok (.baload, 1) := by decide +kernel
theorem d_Model_at_11 : decode b_Model_at 11 = .ok (.ireturn, 1) := by decide +kernel
theorem v_Model_at : Cond.instanceMethod y_Model_at ∈ nm_Ts ∧ Cond.selects y_Model_at.cls y_Model_at y_Model_at ∈ nm_Ts ∧ Cond.initialized y_Model_at.cls ∈ nm_Ts ∧ Cond.code y_Model_at b_Model_at 3 (some .int) ∈ nm_Ts ∧ mz_cl1 y_Model_at 2 := ⟨nm_t4 203 rfl rfl, nm_s 24 rfl rfl, nm_t1 12 rfl rfl, nm_t4 204 rfl rfl, by decide +kernel⟩
def y_Model_zoneOf : MethodName := ⟨"CardOfficeModel", "zoneOf", "(I)I"⟩
abbrev b_Model_zoneOf : ByteArray := prog_14_method_5_code
def r_Model_zoneOf (c s : Nat) : Room := { frames := 0, cells := c, slots := s, locals := 0 }
theorem d_Model_zoneOf_0 : decode b_Model_zoneOf 0 = .ok (.iload_n 0, 1) := by decide +kernel
theorem d_Model_zoneOf_1 : decode b_Model_zoneOf 1 = .ok (.bipush 65, 2) := by decide +kernel
theorem d_Model_zoneOf_3 : decode b_Model_zoneOf 3 = .ok (.if_icmp .ge 7, 3) := by decide +kernel
theorem d_Model_zoneOf_6 : decode b_Model_zoneOf 6 = .ok (.iconst 0, 1) := by decide +kernel
theorem d_Model_zoneOf_7 : decode b_Model_zoneOf 7 = .ok (.goto 24, 3) := by decide +kernel
theorem d_Model_zoneOf_10 : decode b_Model_zoneOf 10 = .ok (.iload_n 0, 1) := by decide +kernel
theorem d_Model_zoneOf_11 : decode b_Model_zoneOf 11 = .ok (.bipush 74, 2) := by decide +kernel
theorem d_Model_zoneOf_13 : decode b_Model_zoneOf 13 = .ok (.if_icmp .ge 7, 3) := by decide +kernel
theorem d_Model_zoneOf_16 : decode b_Model_zoneOf 16 = .ok (.iconst 3, 1) := by decide +kernel
theorem d_Model_zoneOf_17 : decode b_Model_zoneOf 17 = .ok (.goto 14, 3) := by decide +kernel
theorem d_Model_zoneOf_20 : decode b_Model_zoneOf 20 = .ok (.iload_n 0, 1) := by decide +kernel
theorem d_Model_zoneOf_21 : decode b_Model_zoneOf 21 = .ok (.bipush 83, 2) := by decide +kernel
theorem d_Model_zoneOf_23 : decode b_Model_zoneOf 23 = .ok (.if_icmp .ge 7, 3) := by decide +kernel
theorem d_Model_zoneOf_26 : decode b_Model_zoneOf 26 = .ok (.iconst 2, 1) := by decide +kernel
theorem d_Model_zoneOf_27 : decode b_Model_zoneOf 27 = .ok (.goto 4, 3) := by decide +kernel
theorem d_Model_zoneOf_30 : decode b_Model_zoneOf 30 = .ok (.iconst 1, 1) := by decide +kernel
theorem d_Model_zoneOf_31 : decode b_Model_zoneOf 31 = .ok (.ireturn, 1) := by decide +kernel
theorem s_Model_zoneOf : Cond.static y_Model_zoneOf ∈ nm_Ts ∧ Cond.initialized y_Model_zoneOf.cls ∈ nm_Ts ∧ Cond.code y_Model_zoneOf b_Model_zoneOf 1 (some .int) ∈ nm_Ts ∧ mz_cl1 y_Model_zoneOf 1 := ⟨nm_t4 206 rfl rfl, nm_t1 12 rfl rfl, nm_t4 207 rfl rfl, by decide +kernel⟩
def y_Model_digitOf : MethodName := ⟨"CardOfficeModel", "digitOf", "(I)I"⟩
abbrev b_Model_digitOf : ByteArray := prog_14_method_4_code
def r_Model_digitOf (c s : Nat) : Room := { frames := 0, cells := c, slots := s, locals := 0 }
theorem d_Model_digitOf_0 : decode b_Model_digitOf 0 = .ok (.iload_n 0, 1) := by decide +kernel
theorem d_Model_digitOf_1 : decode b_Model_digitOf 1 = .ok (.bipush 32, 2) := by decide +kernel
theorem d_Model_digitOf_3 : decode b_Model_digitOf 3 = .ok (.if_icmp .ne 5, 3) := by decide +kernel
theorem d_Model_digitOf_6 : decode b_Model_digitOf 6 = .ok (.iconst (-1), 1) := by decide +kernel
theorem d_Model_digitOf_7 : decode b_Model_digitOf 7 = .ok (.ireturn, 1) := by decide +kernel
theorem d_Model_digitOf_8 : decode b_Model_digitOf 8 = .ok (.iload_n 0, 1) := by decide +kernel
theorem d_Model_digitOf_9 : decode b_Model_digitOf 9 = .ok (.bipush 65, 2) := by decide +kernel
theorem d_Model_digitOf_11 : decode b_Model_digitOf 11 = .ok (.if_icmp .ge 10, 3) := by decide +kernel
theorem d_Model_digitOf_14 : decode b_Model_digitOf 14 = .ok (.iload_n 0, 1) := by decide +kernel
theorem d_Model_digitOf_15 : decode b_Model_digitOf 15 = .ok (.bipush 48, 2) := by decide +kernel
theorem d_Model_digitOf_17 : decode b_Model_digitOf 17 = .ok (.isub, 1) := by decide +kernel
theorem d_Model_digitOf_18 : decode b_Model_digitOf 18 = .ok (.goto 33, 3) := by decide +kernel
theorem d_Model_digitOf_21 : decode b_Model_digitOf 21 = .ok (.iload_n 0, 1) := by decide +kernel
theorem d_Model_digitOf_22 : decode b_Model_digitOf 22 = .ok (.bipush 74, 2) := by decide +kernel
theorem d_Model_digitOf_24 : decode b_Model_digitOf 24 = .ok (.if_icmp .ge 10, 3) := by decide +kernel
theorem d_Model_digitOf_27 : decode b_Model_digitOf 27 = .ok (.iload_n 0, 1) := by decide +kernel
theorem d_Model_digitOf_28 : decode b_Model_digitOf 28 = .ok (.bipush 64, 2) := by decide +kernel
theorem d_Model_digitOf_30 : decode b_Model_digitOf 30 = .ok (.isub, 1) := by decide +kernel
theorem d_Model_digitOf_31 : decode b_Model_digitOf 31 = .ok (.goto 20, 3) := by decide +kernel
theorem d_Model_digitOf_34 : decode b_Model_digitOf 34 = .ok (.iload_n 0, 1) := by decide +kernel
theorem d_Model_digitOf_35 : decode b_Model_digitOf 35 = .ok (.bipush 83, 2) := by decide +kernel
theorem d_Model_digitOf_37 : decode b_Model_digitOf 37 = .ok (.if_icmp .ge 10, 3) := by decide +kernel
theorem d_Model_digitOf_40 : decode b_Model_digitOf 40 = .ok (.iload_n 0, 1) := by decide +kernel
theorem d_Model_digitOf_41 : decode b_Model_digitOf 41 = .ok (.bipush 73, 2) := by decide +kernel
theorem d_Model_digitOf_43 : decode b_Model_digitOf 43 = .ok (.isub, 1) := by decide +kernel
theorem d_Model_digitOf_44 : decode b_Model_digitOf 44 = .ok (.goto 7, 3) := by decide +kernel
theorem d_Model_digitOf_47 : decode b_Model_digitOf 47 = .ok (.iload_n 0, 1) := by decide +kernel
theorem d_Model_digitOf_48 : decode b_Model_digitOf 48 = .ok (.bipush 81, 2) := by decide +kernel
theorem d_Model_digitOf_50 : decode b_Model_digitOf 50 = .ok (.isub, 1) := by decide +kernel
theorem d_Model_digitOf_51 : decode b_Model_digitOf 51 = .ok (.ireturn, 1) := by decide +kernel
theorem s_Model_digitOf : Cond.static y_Model_digitOf ∈ nm_Ts ∧ Cond.initialized y_Model_digitOf.cls ∈ nm_Ts ∧ Cond.code y_Model_digitOf b_Model_digitOf 1 (some .int) ∈ nm_Ts ∧ mz_cl1 y_Model_digitOf 1 := ⟨nm_t4 209 rfl rfl, nm_t1 12 rfl rfl, nm_t4 210 rfl rfl, by decide +kernel⟩
def y_Model_sort : MethodName := ⟨"CardOfficeModel", "sort", "(III)I"⟩
abbrev b_Model_sort : ByteArray := prog_14_method_29_code
def r_Model_sort (c s : Nat) : Room := { frames := 4, cells := c, slots := s, locals := 91 }
theorem d_Model_sort_0 : decode b_Model_sort 0 = .ok (.aload_n 0, 1) := by decide +kernel
theorem d_Model_sort_1 : decode b_Model_sort 1 = .ok (.iload_n 1, 1) := by decide +kernel
theorem d_Model_sort_2 : decode b_Model_sort 2 = .ok (.invokestatic 65, 3) := by decide +kernel
theorem d_Model_sort_5 : decode b_Model_sort 5 = .ok (.ifCond .eq 15, 3) := by decide +kernel
theorem d_Model_sort_8 : decode b_Model_sort 8 = .ok (.iload_n 2, 1) := by decide +kernel
theorem d_Model_sort_9 : decode b_Model_sort 9 = .ok (.iload_n 3, 1) := by decide +kernel
theorem d_Model_sort_10 : decode b_Model_sort 10 = .ok (.invokestatic 121, 3) := by decide +kernel
theorem d_Model_sort_13 : decode b_Model_sort 13 = .ok (.ifCond .eq 7, 3) := by decide +kernel
theorem d_Model_sort_16 : decode b_Model_sort 16 = .ok (.iconst 0, 1) := by decide +kernel
theorem d_Model_sort_17 : decode b_Model_sort 17 = .ok (.goto 4, 3) := by decide +kernel
theorem d_Model_sort_20 : decode b_Model_sort 20 = .ok (.iconst 1, 1) := by decide +kernel
theorem d_Model_sort_21 : decode b_Model_sort 21 = .ok (.putfield 52, 3) := by decide +kernel
theorem d_Model_sort_24 : decode b_Model_sort 24 = .ok (.aload_n 0, 1) := by decide +kernel
theorem d_Model_sort_25 : decode b_Model_sort 25 = .ok (.getfield 52, 3) := by decide +kernel
theorem d_Model_sort_28 : decode b_Model_sort 28 = .ok (.ifCond .gt 13, 3) := by decide +kernel
theorem d_Model_sort_31 : decode b_Model_sort 31 = .ok (.aload_n 0, 1) := by decide +kernel
theorem d_Model_sort_32 : decode b_Model_sort 32 = .ok (.iload_n 1, 1) := by decide +kernel
theorem d_Model_sort_33 : decode b_Model_sort 33 = .ok (.iload_n 2, 1) := by decide +kernel
theorem d_Model_sort_34 : decode b_Model_sort 34 = .ok (.iload_n 3, 1) := by decide +kernel
theorem d_Model_sort_35 : decode b_Model_sort 35 = .ok (.invokevirtual 125, 3) := by decide +kernel
theorem d_Model_sort_38 : decode b_Model_sort 38 = .ok (.ifCond .eq 5, 3) := by decide +kernel
theorem d_Model_sort_41 : decode b_Model_sort 41 = .ok (.iconst 0, 1) := by decide +kernel
theorem d_Model_sort_42 : decode b_Model_sort 42 = .ok (.ireturn, 1) := by decide +kernel
theorem d_Model_sort_43 : decode b_Model_sort 43 = .ok (.iconst 0, 1) := by decide +kernel
theorem d_Model_sort_44 : decode b_Model_sort 44 = .ok (.istore 4, 2) := by decide +kernel
theorem d_Model_sort_46 : decode b_Model_sort 46 = .ok (.iload_n 2, 1) := by decide +kernel
theorem d_Model_sort_47 : decode b_Model_sort 47 = .ok (.istore 5, 2) := by decide +kernel
theorem d_Model_sort_49 : decode b_Model_sort 49 = .ok (.iload 5, 2) := by decide +kernel
theorem d_Model_sort_51 : decode b_Model_sort 51 = .ok (.iload_n 3, 1) := by decide +kernel
theorem d_Model_sort_52 : decode b_Model_sort 52 = .ok (.if_icmp .gt 78, 3) := by decide +kernel
theorem d_Model_sort_55 : decode b_Model_sort 55 = .ok (.iconst 0, 1) := by decide +kernel
theorem d_Model_sort_56 : decode b_Model_sort 56 = .ok (.istore 6, 2) := by decide +kernel
theorem d_Model_sort_58 : decode b_Model_sort 58 = .ok (.iconst 0, 1) := by decide +kernel
theorem d_Model_sort_59 : decode b_Model_sort 59 = .ok (.istore 7, 2) := by decide +kernel
theorem d_Model_sort_61 : decode b_Model_sort 61 = .ok (.iload 7, 2) := by decide +kernel
theorem d_Model_sort_63 : decode b_Model_sort 63 = .ok (.aload_n 0, 1) := by decide +kernel
theorem d_Model_sort_64 : decode b_Model_sort 64 = .ok (.getfield 17, 3) := by decide +kernel
theorem d_Model_sort_67 : decode b_Model_sort 67 = .ok (.iload_n 1, 1) := by decide +kernel
theorem d_Model_sort_68 : decode b_Model_sort 68 = .ok (.iaload, 1) := by decide +kernel
theorem d_Model_sort_69 : decode b_Model_sort 69 = .ok (.if_icmp .ge 40, 3) := by decide +kernel
theorem d_Model_sort_72 : decode b_Model_sort 72 = .ok (.iload 6, 2) := by decide +kernel
theorem d_Model_sort_74 : decode b_Model_sort 74 = .ok (.ifCond .ne 22, 3) := by decide +kernel
theorem d_Model_sort_77 : decode b_Model_sort 77 = .ok (.aload_n 0, 1) := by decide +kernel
theorem d_Model_sort_78 : decode b_Model_sort 78 = .ok (.aload_n 0, 1) := by decide +kernel
theorem d_Model_sort_79 : decode b_Model_sort 79 = .ok (.iload_n 1, 1) := by decide +kernel
theorem d_Model_sort_80 : decode b_Model_sort 80 = .ok (.iload 7, 2) := by decide +kernel
theorem d_Model_sort_82 : decode b_Model_sort 82 = .ok (.invokevirtual 98, 3) := by decide +kernel
theorem d_Model_sort_85 : decode b_Model_sort 85 = .ok (.iload 5, 2) := by decide +kernel
theorem d_Model_sort_87 : decode b_Model_sort 87 = .ok (.invokevirtual 91, 3) := by decide +kernel
theorem d_Model_sort_90 : decode b_Model_sort 90 = .ok (.invokestatic 55, 3) := by decide +kernel
theorem d_Model_sort_93 : decode b_Model_sort 93 = .ok (.ifCond .le 7, 3) := by decide +kernel
theorem d_Model_sort_96 : decode b_Model_sort 96 = .ok (.iconst 1, 1) := by decide +kernel
theorem d_Model_sort_97 : decode b_Model_sort 97 = .ok (.goto 4, 3) := by decide +kernel
theorem d_Model_sort_100 : decode b_Model_sort 100 = .ok (.iconst 0, 1) := by decide +kernel
theorem d_Model_sort_101 : decode b_Model_sort 101 = .ok (.istore 6, 2) := by decide +kernel
theorem d_Model_sort_103 : decode b_Model_sort 103 = .ok (.iinc 7 1, 3) := by decide +kernel
theorem d_Model_sort_106 : decode b_Model_sort 106 = .ok (.goto (-45), 3) := by decide +kernel
theorem d_Model_sort_109 : decode b_Model_sort 109 = .ok (.iload 4, 2) := by decide +kernel
theorem d_Model_sort_111 : decode b_Model_sort 111 = .ok (.iload 6, 2) := by decide +kernel
theorem d_Model_sort_113 : decode b_Model_sort 113 = .ok (.ifCond .eq 7, 3) := by decide +kernel
theorem d_Model_sort_116 : decode b_Model_sort 116 = .ok (.iconst 2, 1) := by decide +kernel
theorem d_Model_sort_117 : decode b_Model_sort 117 = .ok (.goto 4, 3) := by decide +kernel
theorem d_Model_sort_120 : decode b_Model_sort 120 = .ok (.iconst 1, 1) := by decide +kernel
theorem d_Model_sort_121 : decode b_Model_sort 121 = .ok (.iadd, 1) := by decide +kernel
theorem d_Model_sort_122 : decode b_Model_sort 122 = .ok (.istore 4, 2) := by decide +kernel
theorem d_Model_sort_124 : decode b_Model_sort 124 = .ok (.iinc 5 1, 3) := by decide +kernel
theorem d_Model_sort_127 : decode b_Model_sort 127 = .ok (.goto (-78), 3) := by decide +kernel
theorem d_Model_sort_130 : decode b_Model_sort 130 = .ok (.iconst 0, 1) := by decide +kernel
theorem d_Model_sort_131 : decode b_Model_sort 131 = .ok (.istore 5, 2) := by decide +kernel
theorem d_Model_sort_133 : decode b_Model_sort 133 = .ok (.iload 5, 2) := by decide +kernel
theorem d_Model_sort_135 : decode b_Model_sort 135 = .ok (.aload_n 0, 1) := by decide +kernel
theorem d_Model_sort_136 : decode b_Model_sort 136 = .ok (.getfield 17, 3) := by decide +kernel
theorem d_Model_sort_139 : decode b_Model_sort 139 = .ok (.iload_n 1, 1) := by decide +kernel
theorem d_Model_sort_140 : decode b_Model_sort 140 = .ok (.iaload, 1) := by decide +kernel
theorem d_Model_sort_141 : decode b_Model_sort 141 = .ok (.if_icmp .ge 28, 3) := by decide +kernel
theorem d_Model_sort_144 : decode b_Model_sort 144 = .ok (.aload_n 0, 1) := by decide +kernel
theorem d_Model_sort_145 : decode b_Model_sort 145 = .ok (.aload_n 0, 1) := by decide +kernel
theorem d_Model_sort_146 : decode b_Model_sort 146 = .ok (.getfield 21, 3) := by decide +kernel
theorem d_Model_sort_149 : decode b_Model_sort 149 = .ok (.iload 5, 2) := by decide +kernel
theorem d_Model_sort_151 : decode b_Model_sort 151 = .ok (.aload_n 0, 1) := by decide +kernel
theorem d_Model_sort_152 : decode b_Model_sort 152 = .ok (.iload_n 1, 1) := by decide +kernel
theorem d_Model_sort_153 : decode b_Model_sort 153 = .ok (.iload 5, 2) := by decide +kernel
theorem d_Model_sort_155 : decode b_Model_sort 155 = .ok (.invokevirtual 98, 3) := by decide +kernel
theorem d_Model_sort_158 : decode b_Model_sort 158 = .ok (.iload_n 2, 1) := by decide +kernel
theorem d_Model_sort_159 : decode b_Model_sort 159 = .ok (.iload_n 3, 1) := by decide +kernel
theorem d_Model_sort_160 : decode b_Model_sort 160 = .ok (.invokevirtual 129, 3) := by decide +kernel
theorem d_Model_sort_163 : decode b_Model_sort 163 = .ok (.iinc 5 1, 3) := by decide +kernel
theorem d_Model_sort_166 : decode b_Model_sort 166 = .ok (.goto (-33), 3) := by decide +kernel
theorem d_Model_sort_169 : decode b_Model_sort 169 = .ok (.iconst 0, 1) := by decide +kernel
theorem d_Model_sort_170 : decode b_Model_sort 170 = .ok (.istore 5, 2) := by decide +kernel
theorem d_Model_sort_172 : decode b_Model_sort 172 = .ok (.iload 5, 2) := by decide +kernel
theorem d_Model_sort_174 : decode b_Model_sort 174 = .ok (.aload_n 0, 1) := by decide +kernel
theorem d_Model_sort_175 : decode b_Model_sort 175 = .ok (.getfield 17, 3) := by decide +kernel
theorem d_Model_sort_178 : decode b_Model_sort 178 = .ok (.iload_n 1, 1) := by decide +kernel
theorem d_Model_sort_179 : decode b_Model_sort 179 = .ok (.iaload, 1) := by decide +kernel
theorem d_Model_sort_180 : decode b_Model_sort 180 = .ok (.if_icmp .ge 29, 3) := by decide +kernel
theorem d_Model_sort_183 : decode b_Model_sort 183 = .ok (.aload_n 0, 1) := by decide +kernel
theorem d_Model_sort_184 : decode b_Model_sort 184 = .ok (.getfield 13, 3) := by decide +kernel
theorem d_Model_sort_187 : decode b_Model_sort 187 = .ok (.sipush 200, 3) := by decide +kernel
theorem d_Model_sort_190 : decode b_Model_sort 190 = .ok (.iload_n 1, 1) := by decide +kernel
theorem d_Model_sort_191 : decode b_Model_sort 191 = .ok (.imul, 1) := by decide +kernel
theorem d_Model_sort_192 : decode b_Model_sort 192 = .ok (.iload 5, 2) := by decide +kernel
theorem d_Model_sort_194 : decode b_Model_sort 194 = .ok (.iadd, 1) := by decide +kernel
theorem d_Model_sort_195 : decode b_Model_sort 195 = .ok (.aload_n 0, 1) := by decide +kernel
theorem d_Model_sort_196 : decode b_Model_sort 196 = .ok (.getfield 21, 3) := by decide +kernel
theorem d_Model_sort_199 : decode b_Model_sort 199 = .ok (.iload 5, 2) := by decide +kernel
theorem d_Model_sort_201 : decode b_Model_sort 201 = .ok (.saload, 1) := by decide +kernel
theorem d_Model_sort_202 : decode b_Model_sort 202 = .ok (.sastore, 1) := by decide +kernel
theorem d_Model_sort_203 : decode b_Model_sort 203 = .ok (.iinc 5 1, 3) := by decide +kernel
theorem d_Model_sort_206 : decode b_Model_sort 206 = .ok (.goto (-34), 3) := by decide +kernel
theorem d_Model_sort_209 : decode b_Model_sort 209 = .ok (.aload_n 0, 1) := by decide +kernel
theorem d_Model_sort_210 : decode b_Model_sort 210 = .ok (.dup, 1) := by decide +kernel
theorem d_Model_sort_211 : decode b_Model_sort 211 = .ok (.getfield 105, 3) := by decide +kernel
theorem d_Model_sort_214 : decode b_Model_sort 214 = .ok (.iload 4, 2) := by decide +kernel
theorem d_Model_sort_216 : decode b_Model_sort 216 = .ok (.iadd, 1) := by decide +kernel
theorem d_Model_sort_217 : decode b_Model_sort 217 = .ok (.putfield 105, 3) := by decide +kernel
theorem d_Model_sort_220 : decode b_Model_sort 220 = .ok (.iload 4, 2) := by decide +kernel
theorem d_Model_sort_222 : decode b_Model_sort 222 = .ok (.ireturn, 1) := by decide +kernel
theorem d_Model_sort : decode b_Model_sort 0 = .ok (.aload_n 0, 1) ∧ decode b_Model_sort 1 = .ok (.iload_n 1, 1) ∧ decode b_Model_sort 2 = .ok (.invokestatic 65, 3) ∧ decode b_Model_sort 5 = .ok (.ifCond .eq 15, 3) ∧ decode b_Model_sort 8 = .ok (.iload_n 2, 1) ∧ decode b_Model_sort 9 = .ok (.iload_n 3, 1) ∧ decode b_Model_sort 10 = .ok (.invokestatic 121, 3) ∧ decode b_Model_sort 13 = .ok (.ifCond .eq 7, 3) ∧ decode b_Model_sort 16 = .ok (.iconst 0, 1) ∧ decode b_Model_sort 17 = .ok (.goto 4, 3) ∧ decode b_Model_sort 20 = .ok (.iconst 1, 1) ∧ decode b_Model_sort 21 = .ok (.putfield 52, 3) ∧ decode b_Model_sort 24 = .ok (.aload_n 0, 1) ∧ decode b_Model_sort 25 = .ok (.getfield 52, 3) ∧ decode b_Model_sort 28 = .ok (.ifCond .gt 13, 3) ∧ decode b_Model_sort 31 = .ok (.aload_n 0, 1) ∧ decode b_Model_sort 32 = .ok (.iload_n 1, 1) ∧ decode b_Model_sort 33 = .ok (.iload_n 2, 1) ∧ decode b_Model_sort 34 = .ok (.iload_n 3, 1) ∧ decode b_Model_sort 35 = .ok (.invokevirtual 125, 3) ∧ decode b_Model_sort 38 = .ok (.ifCond .eq 5, 3) ∧ decode b_Model_sort 41 = .ok (.iconst 0, 1) ∧ decode b_Model_sort 42 = .ok (.ireturn, 1) ∧ decode b_Model_sort 43 = .ok (.iconst 0, 1) ∧ decode b_Model_sort 44 = .ok (.istore 4, 2) ∧ decode b_Model_sort 46 = .ok (.iload_n 2, 1) ∧ decode b_Model_sort 47 = .ok (.istore 5, 2) ∧ decode b_Model_sort 49 = .ok (.iload 5, 2) ∧ decode b_Model_sort 51 = .ok (.iload_n 3, 1) ∧ decode b_Model_sort 52 = .ok (.if_icmp .gt 78, 3) ∧ decode b_Model_sort 55 = .ok (.iconst 0, 1) ∧ decode b_Model_sort 56 = .ok (.istore 6, 2) ∧ decode b_Model_sort 58 = .ok (.iconst 0, 1) ∧ decode b_Model_sort 59 = .ok (.istore 7, 2) ∧ decode b_Model_sort 61 = .ok (.iload 7, 2) ∧ decode b_Model_sort 63 = .ok (.aload_n 0, 1) ∧ decode b_Model_sort 64 = .ok (.getfield 17, 3) ∧ decode b_Model_sort 67 = .ok (.iload_n 1, 1) ∧ decode b_Model_sort 68 = .ok (.iaload, 1) ∧ decode b_Model_sort 69 = .ok (.if_icmp .ge 40, 3) ∧ decode b_Model_sort 72 = .ok (.iload 6, 2) ∧ decode b_Model_sort 74 = .ok (.ifCond .ne 22, 3) ∧ decode b_Model_sort 77 = .ok (.aload_n 0, 1) ∧ decode b_Model_sort 78 = .ok (.aload_n 0, 1) ∧ decode b_Model_sort 79 = .ok (.iload_n 1, 1) ∧ decode b_Model_sort 80 = .ok (.iload 7, 2) ∧ decode b_Model_sort 82 = .ok (.invokevirtual 98, 3) ∧ decode b_Model_sort 85 = .ok (.iload 5, 2) ∧ decode b_Model_sort 87 = .ok (.invokevirtual 91, 3) ∧ decode b_Model_sort 90 = .ok (.invokestatic 55, 3) ∧ decode b_Model_sort 93 = .ok (.ifCond .le 7, 3) ∧ decode b_Model_sort 96 = .ok (.iconst 1, 1) ∧ decode b_Model_sort 97 = .ok (.goto 4, 3) ∧ decode b_Model_sort 100 = .ok (.iconst 0, 1) ∧ decode b_Model_sort 101 = .ok (.istore 6, 2) ∧ decode b_Model_sort 103 = .ok (.iinc 7 1, 3) ∧ decode b_Model_sort 106 = .ok (.goto (-45), 3) ∧ decode b_Model_sort 109 = .ok (.iload 4, 2) ∧ decode b_Model_sort 111 = .ok (.iload 6, 2) ∧ decode b_Model_sort 113 = .ok (.ifCond .eq 7, 3) ∧ decode b_Model_sort 116 = .ok (.iconst 2, 1) ∧ decode b_Model_sort 117 = .ok (.goto 4, 3) ∧ decode b_Model_sort 120 = .ok (.iconst 1, 1) ∧ decode b_Model_sort 121 = .ok (.iadd, 1) ∧ decode b_Model_sort 122 = .ok (.istore 4, 2) ∧ decode b_Model_sort 124 = .ok (.iinc 5 1, 3) ∧ decode b_Model_sort 127 = .ok (.goto (-78), 3) ∧ decode b_Model_sort 130 = .ok (.iconst 0, 1) ∧ decode b_Model_sort 131 = .ok (.istore 5, 2) ∧ decode b_Model_sort 133 = .ok (.iload 5, 2) ∧ decode b_Model_sort 135 = .ok (.aload_n 0, 1) ∧ decode b_Model_sort 136 = .ok (.getfield 17, 3) ∧ decode b_Model_sort 139 = .ok (.iload_n 1, 1) ∧ decode b_Model_sort 140 = .ok (.iaload, 1) ∧ decode b_Model_sort 141 = .ok (.if_icmp .ge 28, 3) ∧ decode b_Model_sort 144 = .ok (.aload_n 0, 1) ∧ decode b_Model_sort 145 = .ok (.aload_n 0, 1) ∧ decode b_Model_sort 146 = .ok (.getfield 21, 3) ∧ decode b_Model_sort 149 = .ok (.iload 5, 2) ∧ decode b_Model_sort 151 = .ok (.aload_n 0, 1) ∧ decode b_Model_sort 152 = .ok (.iload_n 1, 1) ∧ decode b_Model_sort 153 = .ok (.iload 5, 2) ∧ decode b_Model_sort 155 = .ok (.invokevirtual 98, 3) ∧ decode b_Model_sort 158 = .ok (.iload_n 2, 1) ∧ decode b_Model_sort 159 = .ok (.iload_n 3, 1) ∧ decode b_Model_sort 160 = .ok (.invokevirtual 129, 3) ∧ decode b_Model_sort 163 = .ok (.iinc 5 1, 3) ∧ decode b_Model_sort 166 = .ok (.goto (-33), 3) ∧ decode b_Model_sort 169 = .ok (.iconst 0, 1) ∧ decode b_Model_sort 170 = .ok (.istore 5, 2) ∧ decode b_Model_sort 172 = .ok (.iload 5, 2) ∧ decode b_Model_sort 174 = .ok (.aload_n 0, 1) ∧ decode b_Model_sort 175 = .ok (.getfield 17, 3) ∧ decode b_Model_sort 178 = .ok (.iload_n 1, 1) ∧ decode b_Model_sort 179 = .ok (.iaload, 1) ∧ decode b_Model_sort 180 = .ok (.if_icmp .ge 29, 3) ∧ decode b_Model_sort 183 = .ok (.aload_n 0, 1) ∧ decode b_Model_sort 184 = .ok (.getfield 13, 3) ∧ decode b_Model_sort 187 = .ok (.sipush 200, 3) ∧ decode b_Model_sort 190 = .ok (.iload_n 1, 1) ∧ decode b_Model_sort 191 = .ok (.imul, 1) ∧ decode b_Model_sort 192 = .ok (.iload 5, 2) ∧ decode b_Model_sort 194 = .ok (.iadd, 1) ∧ decode b_Model_sort 195 = .ok (.aload_n 0, 1) ∧ decode b_Model_sort 196 = .ok (.getfield 21, 3) ∧ decode b_Model_sort 199 = .ok (.iload 5, 2) ∧ decode b_Model_sort 201 = .ok (.saload, 1) ∧ decode b_Model_sort 202 = .ok (.sastore, 1) ∧ decode b_Model_sort 203 = .ok (.iinc 5 1, 3) ∧ decode b_Model_sort 206 = .ok (.goto (-34), 3) ∧ decode b_Model_sort 209 = .ok (.aload_n 0, 1) ∧ decode b_Model_sort 210 = .ok (.dup, 1) ∧ decode b_Model_sort 211 = .ok (.getfield 105, 3) ∧ decode b_Model_sort 214 = .ok (.iload 4, 2) ∧ decode b_Model_sort 216 = .ok (.iadd, 1) ∧ decode b_Model_sort 217 = .ok (.putfield 105, 3) ∧ decode b_Model_sort 220 = .ok (.iload 4, 2) ∧ decode b_Model_sort 222 = .ok (.ireturn, 1) := ⟨d_Model_sort_0, d_Model_sort_1, d_Model_sort_2, d_Model_sort_5, d_Model_sort_8, d_Model_sort_9, d_Model_sort_10, d_Model_sort_13, d_Model_sort_16, d_Model_sort_17, d_Model_sort_20, d_Model_sort_21, d_Model_sort_24, d_Model_sort_25, d_Model_sort_28, d_Model_sort_31, d_Model_sort_32, d_Model_sort_33, d_Model_sort_34, d_Model_sort_35, d_Model_sort_38, d_Model_sort_41, d_Model_sort_42, d_Model_sort_43, d_Model_sort_44, d_Model_sort_46, d_Model_sort_47, d_Model_sort_49, d_Model_sort_51, d_Model_sort_52, d_Model_sort_55, d_Model_sort_56, d_Model_sort_58, d_Model_sort_59, d_Model_sort_61, d_Model_sort_63, d_Model_sort_64, d_Model_sort_67, d_Model_sort_68, d_Model_sort_69, d_Model_sort_72, d_Model_sort_74, d_Model_sort_77, d_Model_sort_78, d_Model_sort_79, d_Model_sort_80, d_Model_sort_82, d_Model_sort_85, d_Model_sort_87, d_Model_sort_90, d_Model_sort_93, d_Model_sort_96, d_Model_sort_97, d_Model_sort_100, d_Model_sort_101, d_Model_sort_103, d_Model_sort_106, d_Model_sort_109, d_Model_sort_111, d_Model_sort_113, d_Model_sort_116, d_Model_sort_117, d_Model_sort_120, d_Model_sort_121, d_Model_sort_122, d_Model_sort_124, d_Model_sort_127, d_Model_sort_130, d_Model_sort_131, d_Model_sort_133, d_Model_sort_135, d_Model_sort_136, d_Model_sort_139, d_Model_sort_140, d_Model_sort_141, d_Model_sort_144, d_Model_sort_145, d_Model_sort_146, d_Model_sort_149, d_Model_sort_151, d_Model_sort_152, d_Model_sort_153, d_Model_sort_155, d_Model_sort_158, d_Model_sort_159, d_Model_sort_160, d_Model_sort_163, d_Model_sort_166, d_Model_sort_169, d_Model_sort_170, d_Model_sort_172, d_Model_sort_174, d_Model_sort_175, d_Model_sort_178, d_Model_sort_179, d_Model_sort_180, d_Model_sort_183, d_Model_sort_184, d_Model_sort_187, d_Model_sort_190, d_Model_sort_191, d_Model_sort_192, d_Model_sort_194, d_Model_sort_195, d_Model_sort_196, d_Model_sort_199, d_Model_sort_201, d_Model_sort_202, d_Model_sort_203, d_Model_sort_206, d_Model_sort_209, d_Model_sort_210, d_Model_sort_211, d_Model_sort_214, d_Model_sort_216, d_Model_sort_217, d_Model_sort_220, d_Model_sort_222⟩
theorem v_Model_sort : Cond.instanceMethod y_Model_sort ∈ nm_Ts ∧ Cond.selects y_Model_sort.cls y_Model_sort y_Model_sort ∈ nm_Ts ∧ Cond.initialized y_Model_sort.cls ∈ nm_Ts ∧ Cond.code y_Model_sort b_Model_sort 8 (some .int) ∈ nm_Ts ∧ mz_cl1 y_Model_sort 3 := ⟨nm_t4 212 rfl rfl, nm_t4 213 rfl rfl, nm_t1 12 rfl rfl, nm_t4 214 rfl rfl, by decide +kernel⟩
def y_Model_isField : MethodName := ⟨"CardOfficeModel", "isField", "(II)Z"⟩
abbrev b_Model_isField : ByteArray := prog_14_method_11_code
def r_Model_isField (c s : Nat) : Room := { frames := 0, cells := c, slots := s, locals := 0 }
theorem d_Model_isField_0 : decode b_Model_isField 0 = .ok (.iload_n 0, 1) := by decide +kernel
theorem d_Model_isField_1 : decode b_Model_isField 1 = .ok (.ifCond .lt 18, 3) := by decide +kernel
theorem d_Model_isField_4 : decode b_Model_isField 4 = .ok (.iload_n 0, 1) := by decide +kernel
theorem d_Model_isField_5 : decode b_Model_isField 5 = .ok (.iload_n 1, 1) := by decide +kernel
theorem d_Model_isField_6 : decode b_Model_isField 6 = .ok (.if_icmp .gt 13, 3) := by decide +kernel
theorem d_Model_isField_9 : decode b_Model_isField 9 = .ok (.iload_n 1, 1) := by decide +kernel
theorem d_Model_isField_10 : decode b_Model_isField 10 = .ok (.bipush 16, 2) := by decide +kernel
theorem d_Model_isField_12 : decode b_Model_isField 12 = .ok (.if_icmp .ge 7, 3) := by decide +kernel
theorem d_Model_isField_15 : decode b_Model_isField 15 = .ok (.iconst 1, 1) := by decide +kernel
theorem d_Model_isField_16 : decode b_Model_isField 16 = .ok (.goto 4, 3) := by decide +kernel
theorem d_Model_isField_19 : decode b_Model_isField 19 = .ok (.iconst 0, 1) := by decide +kernel
theorem d_Model_isField_20 : decode b_Model_isField 20 = .ok (.ireturn, 1) := by decide +kernel
theorem s_Model_isField : Cond.static y_Model_isField ∈ nm_Ts ∧ Cond.initialized y_Model_isField.cls ∈ nm_Ts ∧ Cond.code y_Model_isField b_Model_isField 2 (some .boolean) ∈ nm_Ts ∧ mz_cl1 y_Model_isField 2 := ⟨nm_t4 216 rfl rfl, nm_t1 12 rfl rfl, nm_t4 217 rfl rfl, by decide +kernel⟩
def y_Model_isSorted : MethodName := ⟨"CardOfficeModel", "isSorted", "(III)Z"⟩
abbrev b_Model_isSorted : ByteArray := prog_14_method_27_code
def r_Model_isSorted (c s : Nat) : Room := { frames := 3, cells := c, slots := s, locals := 65 }
theorem d_Model_isSorted_0 : decode b_Model_isSorted 0 = .ok (.iconst 1, 1) := by decide +kernel
theorem d_Model_isSorted_1 : decode b_Model_isSorted 1 = .ok (.istore 4, 2) := by decide +kernel
theorem d_Model_isSorted_3 : decode b_Model_isSorted 3 = .ok (.iconst 1, 1) := by decide +kernel
theorem d_Model_isSorted_4 : decode b_Model_isSorted 4 = .ok (.istore 5, 2) := by decide +kernel
theorem d_Model_isSorted_6 : decode b_Model_isSorted 6 = .ok (.iload 5, 2) := by decide +kernel
theorem d_Model_isSorted_8 : decode b_Model_isSorted 8 = .ok (.aload_n 0, 1) := by decide +kernel
theorem d_Model_isSorted_9 : decode b_Model_isSorted 9 = .ok (.getfield 17, 3) := by decide +kernel
theorem d_Model_isSorted_12 : decode b_Model_isSorted 12 = .ok (.iload_n 1, 1) := by decide +kernel
theorem d_Model_isSorted_13 : decode b_Model_isSorted 13 = .ok (.iaload, 1) := by decide +kernel
theorem d_Model_isSorted_14 : decode b_Model_isSorted 14 = .ok (.if_icmp .ge 46, 3) := by decide +kernel
theorem d_Model_isSorted_17 : decode b_Model_isSorted 17 = .ok (.iload 4, 2) := by decide +kernel
theorem d_Model_isSorted_19 : decode b_Model_isSorted 19 = .ok (.ifCond .eq 32, 3) := by decide +kernel
theorem d_Model_isSorted_22 : decode b_Model_isSorted 22 = .ok (.aload_n 0, 1) := by decide +kernel
theorem d_Model_isSorted_23 : decode b_Model_isSorted 23 = .ok (.aload_n 0, 1) := by decide +kernel
theorem d_Model_isSorted_24 : decode b_Model_isSorted 24 = .ok (.iload_n 1, 1) := by decide +kernel
theorem d_Model_isSorted_25 : decode b_Model_isSorted 25 = .ok (.iload 5, 2) := by decide +kernel
theorem d_Model_isSorted_27 : decode b_Model_isSorted 27 = .ok (.iconst 1, 1) := by decide +kernel
theorem d_Model_isSorted_28 : decode b_Model_isSorted 28 = .ok (.isub, 1) := by decide +kernel
theorem d_Model_isSorted_29 : decode b_Model_isSorted 29 = .ok (.invokevirtual 98, 3) := by decide +kernel
theorem d_Model_isSorted_32 : decode b_Model_isSorted 32 = .ok (.aload_n 0, 1) := by decide +kernel
theorem d_Model_isSorted_33 : decode b_Model_isSorted 33 = .ok (.iload_n 1, 1) := by decide +kernel
theorem d_Model_isSorted_34 : decode b_Model_isSorted 34 = .ok (.iload 5, 2) := by decide +kernel
theorem d_Model_isSorted_36 : decode b_Model_isSorted 36 = .ok (.invokevirtual 98, 3) := by decide +kernel
theorem d_Model_isSorted_39 : decode b_Model_isSorted 39 = .ok (.iload_n 2, 1) := by decide +kernel
theorem d_Model_isSorted_40 : decode b_Model_isSorted 40 = .ok (.iload_n 3, 1) := by decide +kernel
theorem d_Model_isSorted_41 : decode b_Model_isSorted 41 = .ok (.invokevirtual 117, 3) := by decide +kernel
theorem d_Model_isSorted_44 : decode b_Model_isSorted 44 = .ok (.ifCond .gt 7, 3) := by decide +kernel
theorem d_Model_isSorted_47 : decode b_Model_isSorted 47 = .ok (.iconst 1, 1) := by decide +kernel
theorem d_Model_isSorted_48 : decode b_Model_isSorted 48 = .ok (.goto 4, 3) := by decide +kernel
theorem d_Model_isSorted_51 : decode b_Model_isSorted 51 = .ok (.iconst 0, 1) := by decide +kernel
theorem d_Model_isSorted_52 : decode b_Model_isSorted 52 = .ok (.istore 4, 2) := by decide +kernel
theorem d_Model_isSorted_54 : decode b_Model_isSorted 54 = .ok (.iinc 5 1, 3) := by decide +kernel
theorem d_Model_isSorted_57 : decode b_Model_isSorted 57 = .ok (.goto (-51), 3) := by decide +kernel
theorem d_Model_isSorted_60 : decode b_Model_isSorted 60 = .ok (.iload 4, 2) := by decide +kernel
theorem d_Model_isSorted_62 : decode b_Model_isSorted 62 = .ok (.ireturn, 1) := by decide +kernel
theorem v_Model_isSorted : Cond.instanceMethod y_Model_isSorted ∈ nm_Ts ∧ Cond.selects y_Model_isSorted.cls y_Model_isSorted y_Model_isSorted ∈ nm_Ts ∧ Cond.initialized y_Model_isSorted.cls ∈ nm_Ts ∧ Cond.code y_Model_isSorted b_Model_isSorted 6 (some .boolean) ∈ nm_Ts ∧ mz_cl1 y_Model_isSorted 3 := ⟨nm_t4 220 rfl rfl, nm_s 25 rfl rfl, nm_t1 12 rfl rfl, nm_t4 221 rfl rfl, by decide +kernel⟩
def y_Model_compare : MethodName := ⟨"CardOfficeModel", "compare", "(IIII)I"⟩
abbrev b_Model_compare : ByteArray := prog_14_method_26_code
def r_Model_compare (c s : Nat) : Room := { frames := 2, cells := c, slots := s, locals := 40 }
theorem d_Model_compare_0 : decode b_Model_compare 0 = .ok (.iload_n 3, 1) := by decide +kernel
theorem d_Model_compare_1 : decode b_Model_compare 1 = .ok (.istore 5, 2) := by decide +kernel
theorem d_Model_compare_3 : decode b_Model_compare 3 = .ok (.iload 5, 2) := by decide +kernel
theorem d_Model_compare_5 : decode b_Model_compare 5 = .ok (.iload 4, 2) := by decide +kernel
theorem d_Model_compare_7 : decode b_Model_compare 7 = .ok (.if_icmp .gt 48, 3) := by decide +kernel
theorem d_Model_compare_10 : decode b_Model_compare 10 = .ok (.aload_n 0, 1) := by decide +kernel
theorem d_Model_compare_11 : decode b_Model_compare 11 = .ok (.iload_n 1, 1) := by decide +kernel
theorem d_Model_compare_12 : decode b_Model_compare 12 = .ok (.iload 5, 2) := by decide +kernel
theorem d_Model_compare_14 : decode b_Model_compare 14 = .ok (.invokevirtual 91, 3) := by decide +kernel
theorem d_Model_compare_17 : decode b_Model_compare 17 = .ok (.aload_n 0, 1) := by decide +kernel
theorem d_Model_compare_18 : decode b_Model_compare 18 = .ok (.iload_n 2, 1) := by decide +kernel
theorem d_Model_compare_19 : decode b_Model_compare 19 = .ok (.iload 5, 2) := by decide +kernel
theorem d_Model_compare_21 : decode b_Model_compare 21 = .ok (.invokevirtual 91, 3) := by decide +kernel
theorem d_Model_compare_24 : decode b_Model_compare 24 = .ok (.if_icmp .eq 25, 3) := by decide +kernel
theorem d_Model_compare_27 : decode b_Model_compare 27 = .ok (.aload_n 0, 1) := by decide +kernel
theorem d_Model_compare_28 : decode b_Model_compare 28 = .ok (.iload_n 1, 1) := by decide +kernel
theorem d_Model_compare_29 : decode b_Model_compare 29 = .ok (.iload 5, 2) := by decide +kernel
theorem d_Model_compare_31 : decode b_Model_compare 31 = .ok (.invokevirtual 91, 3) := by decide +kernel
theorem d_Model_compare_34 : decode b_Model_compare 34 = .ok (.invokestatic 114, 3) := by decide +kernel
theorem d_Model_compare_37 : decode b_Model_compare 37 = .ok (.aload_n 0, 1) := by decide +kernel
theorem d_Model_compare_38 : decode b_Model_compare 38 = .ok (.iload_n 2, 1) := by decide +kernel
theorem d_Model_compare_39 : decode b_Model_compare 39 = .ok (.iload 5, 2) := by decide +kernel
theorem d_Model_compare_41 : decode b_Model_compare 41 = .ok (.invokevirtual 91, 3) := by decide +kernel
theorem d_Model_compare_44 : decode b_Model_compare 44 = .ok (.invokestatic 114, 3) := by decide +kernel
theorem d_Model_compare_47 : decode b_Model_compare 47 = .ok (.isub, 1) := by decide +kernel
theorem d_Model_compare_48 : decode b_Model_compare 48 = .ok (.ireturn, 1) := by decide +kernel
theorem d_Model_compare_49 : decode b_Model_compare 49 = .ok (.iinc 5 1, 3) := by decide +kernel
theorem d_Model_compare_52 : decode b_Model_compare 52 = .ok (.goto (-49), 3) := by decide +kernel
theorem d_Model_compare_55 : decode b_Model_compare 55 = .ok (.iconst 0, 1) := by decide +kernel
theorem d_Model_compare_56 : decode b_Model_compare 56 = .ok (.ireturn, 1) := by decide +kernel
theorem v_Model_compare : Cond.instanceMethod y_Model_compare ∈ nm_Ts ∧ Cond.selects y_Model_compare.cls y_Model_compare y_Model_compare ∈ nm_Ts ∧ Cond.initialized y_Model_compare.cls ∈ nm_Ts ∧ Cond.code y_Model_compare b_Model_compare 6 (some .int) ∈ nm_Ts ∧ mz_cl1 y_Model_compare 4 := ⟨nm_t4 224 rfl rfl, nm_s 26 rfl rfl, nm_t1 12 rfl rfl, nm_t4 225 rfl rfl, by decide +kernel⟩
def y_Model_rank : MethodName := ⟨"CardOfficeModel", "rank", "(I)I"⟩
abbrev b_Model_rank : ByteArray := prog_14_method_6_code
def r_Model_rank (c s : Nat) : Room := { frames := 1, cells := c, slots := s, locals := 20 }
theorem d_Model_rank_0 : decode b_Model_rank 0 = .ok (.bipush 16, 2) := by decide +kernel
theorem d_Model_rank_2 : decode b_Model_rank 2 = .ok (.iload_n 0, 1) := by decide +kernel
theorem d_Model_rank_3 : decode b_Model_rank 3 = .ok (.invokestatic 55, 3) := by decide +kernel
theorem d_Model_rank_6 : decode b_Model_rank 6 = .ok (.imul, 1) := by decide +kernel
theorem d_Model_rank_7 : decode b_Model_rank 7 = .ok (.iload_n 0, 1) := by decide +kernel
theorem d_Model_rank_8 : decode b_Model_rank 8 = .ok (.invokestatic 59, 3) := by decide +kernel
theorem d_Model_rank_11 : decode b_Model_rank 11 = .ok (.iadd, 1) := by decide +kernel
theorem d_Model_rank_12 : decode b_Model_rank 12 = .ok (.iconst 1, 1) := by decide +kernel
theorem d_Model_rank_13 : decode b_Model_rank 13 = .ok (.iadd, 1) := by decide +kernel
theorem d_Model_rank_14 : decode b_Model_rank 14 = .ok (.ireturn, 1) := by decide +kernel
theorem s_Model_rank : Cond.static y_Model_rank ∈ nm_Ts ∧ Cond.initialized y_Model_rank.cls ∈ nm_Ts ∧ Cond.code y_Model_rank b_Model_rank 1 (some .int) ∈ nm_Ts ∧ mz_cl1 y_Model_rank 1 := ⟨nm_t4 227 rfl rfl, nm_t1 12 rfl rfl, nm_t4 228 rfl rfl, by decide +kernel⟩
def y_Model_putIn : MethodName := ⟨"CardOfficeModel", "putIn", "([SIIII)V"⟩
abbrev b_Model_putIn : ByteArray := prog_14_method_28_code
def r_Model_putIn (c s : Nat) : Room := { frames := 3, cells := c, slots := s, locals := 65 }
theorem d_Model_putIn_0 : decode b_Model_putIn 0 = .ok (.iload_n 2, 1) := by decide +kernel
theorem d_Model_putIn_1 : decode b_Model_putIn 1 = .ok (.istore 6, 2) := by decide +kernel
theorem d_Model_putIn_3 : decode b_Model_putIn 3 = .ok (.iload 6, 2) := by decide +kernel
theorem d_Model_putIn_5 : decode b_Model_putIn 5 = .ok (.ifCond .le 37, 3) := by decide +kernel
theorem d_Model_putIn_8 : decode b_Model_putIn 8 = .ok (.aload_n 0, 1) := by decide +kernel
theorem d_Model_putIn_9 : decode b_Model_putIn 9 = .ok (.aload_n 1, 1) := by decide +kernel
theorem d_Model_putIn_10 : decode b_Model_putIn 10 = .ok (.iload 6, 2) := by decide +kernel
theorem d_Model_putIn_12 : decode b_Model_putIn 12 = .ok (.iconst 1, 1) := by decide +kernel
theorem d_Model_putIn_13 : decode b_Model_putIn 13 = .ok (.isub, 1) := by decide +kernel
theorem d_Model_putIn_14 : decode b_Model_putIn 14 = .ok (.saload, 1) := by decide +kernel
theorem d_Model_putIn_15 : decode b_Model_putIn 15 = .ok (.iload_n 3, 1) := by decide +kernel
theorem d_Model_putIn_16 : decode b_Model_putIn 16 = .ok (.iload 4, 2) := by decide +kernel
theorem d_Model_putIn_18 : decode b_Model_putIn 18 = .ok (.iload 5, 2) := by decide +kernel
theorem d_Model_putIn_20 : decode b_Model_putIn 20 = .ok (.invokevirtual 117, 3) := by decide +kernel
theorem d_Model_putIn_23 : decode b_Model_putIn 23 = .ok (.ifCond .le 19, 3) := by decide +kernel
theorem d_Model_putIn_26 : decode b_Model_putIn 26 = .ok (.aload_n 1, 1) := by decide +kernel
theorem d_Model_putIn_27 : decode b_Model_putIn 27 = .ok (.iload 6, 2) := by decide +kernel
theorem d_Model_putIn_29 : decode b_Model_putIn 29 = .ok (.aload_n 1, 1) := by decide +kernel
theorem d_Model_putIn_30 : decode b_Model_putIn 30 = .ok (.iload 6, 2) := by decide +kernel
theorem d_Model_putIn_32 : decode b_Model_putIn 32 = .ok (.iconst 1, 1) := by decide +kernel
theorem d_Model_putIn_33 : decode b_Model_putIn 33 = .ok (.isub, 1) := by decide +kernel
theorem d_Model_putIn_34 : decode b_Model_putIn 34 = .ok (.saload, 1) := by decide +kernel
theorem d_Model_putIn_35 : decode b_Model_putIn 35 = .ok (.sastore, 1) := by decide +kernel
theorem d_Model_putIn_36 : decode b_Model_putIn 36 = .ok (.iinc 6 (-1), 3) := by decide +kernel
theorem d_Model_putIn_39 : decode b_Model_putIn 39 = .ok (.goto (-36), 3) := by decide +kernel
theorem d_Model_putIn_42 : decode b_Model_putIn 42 = .ok (.aload_n 1, 1) := by decide +kernel
theorem d_Model_putIn_43 : decode b_Model_putIn 43 = .ok (.iload 6, 2) := by decide +kernel
theorem d_Model_putIn_45 : decode b_Model_putIn 45 = .ok (.iload_n 3, 1) := by decide +kernel
theorem d_Model_putIn_46 : decode b_Model_putIn 46 = .ok (.i2s, 1) := by decide +kernel
theorem d_Model_putIn_47 : decode b_Model_putIn 47 = .ok (.sastore, 1) := by decide +kernel
theorem d_Model_putIn_48 : decode b_Model_putIn 48 = .ok (.return_, 1) := by decide +kernel
theorem v_Model_putIn : Cond.instanceMethod y_Model_putIn ∈ nm_Ts ∧ Cond.selects y_Model_putIn.cls y_Model_putIn y_Model_putIn ∈ nm_Ts ∧ Cond.initialized y_Model_putIn.cls ∈ nm_Ts ∧ Cond.code y_Model_putIn b_Model_putIn 7 none ∈ nm_Ts ∧ mz_cl1 y_Model_putIn 5 := ⟨nm_t4 231 rfl rfl, nm_s 27 rfl rfl, nm_t1 12 rfl rfl, nm_t4 232 rfl rfl, by decide +kernel⟩
def y_Model_merge : MethodName := ⟨"CardOfficeModel", "merge", "(IIII)I"⟩
abbrev b_Model_merge : ByteArray := prog_14_method_30_code
def r_Model_merge (c s : Nat) : Room := { frames := 4, cells := c, slots := s, locals := 91 }
theorem d_Model_merge_0 : decode b_Model_merge 0 = .ok (.iload_n 1, 1) := by decide +kernel
theorem d_Model_merge_1 : decode b_Model_merge 1 = .ok (.invokestatic 65, 3) := by decide +kernel
theorem d_Model_merge_4 : decode b_Model_merge 4 = .ok (.ifCond .eq 28, 3) := by decide +kernel
theorem d_Model_merge_7 : decode b_Model_merge 7 = .ok (.iload_n 2, 1) := by decide +kernel
theorem d_Model_merge_8 : decode b_Model_merge 8 = .ok (.invokestatic 65, 3) := by decide +kernel
theorem d_Model_merge_11 : decode b_Model_merge 11 = .ok (.ifCond .eq 21, 3) := by decide +kernel
theorem d_Model_merge_14 : decode b_Model_merge 14 = .ok (.iload_n 1, 1) := by decide +kernel
theorem d_Model_merge_15 : decode b_Model_merge 15 = .ok (.iload_n 2, 1) := by decide +kernel
theorem d_Model_merge_16 : decode b_Model_merge 16 = .ok (.if_icmp .eq 16, 3) := by decide +kernel
theorem d_Model_merge_19 : decode b_Model_merge 19 = .ok (.iload_n 3, 1) := by decide +kernel
theorem d_Model_merge_20 : decode b_Model_merge 20 = .ok (.iload 4, 2) := by decide +kernel
theorem d_Model_merge_22 : decode b_Model_merge 22 = .ok (.invokestatic 121, 3) := by decide +kernel
theorem d_Model_merge_25 : decode b_Model_merge 25 = .ok (.ifCond .eq 7, 3) := by decide +kernel
theorem d_Model_merge_28 : decode b_Model_merge 28 = .ok (.iconst 1, 1) := by decide +kernel
theorem d_Model_merge_29 : decode b_Model_merge 29 = .ok (.goto 4, 3) := by decide +kernel
theorem d_Model_merge_32 : decode b_Model_merge 32 = .ok (.iconst 0, 1) := by decide +kernel
theorem d_Model_merge_33 : decode b_Model_merge 33 = .ok (.istore 5, 2) := by decide +kernel
theorem d_Model_merge_35 : decode b_Model_merge 35 = .ok (.aload_n 0, 1) := by decide +kernel
theorem d_Model_merge_36 : decode b_Model_merge 36 = .ok (.iload 5, 2) := by decide +kernel
theorem d_Model_merge_38 : decode b_Model_merge 38 = .ok (.ifCond .ne 7, 3) := by decide +kernel
theorem d_Model_merge_41 : decode b_Model_merge 41 = .ok (.iconst 1, 1) := by decide +kernel
theorem d_Model_merge_42 : decode b_Model_merge 42 = .ok (.goto 30, 3) := by decide +kernel
theorem d_Model_merge_45 : decode b_Model_merge 45 = .ok (.aload_n 0, 1) := by decide +kernel
theorem d_Model_merge_46 : decode b_Model_merge 46 = .ok (.iload_n 1, 1) := by decide +kernel
theorem d_Model_merge_47 : decode b_Model_merge 47 = .ok (.iload_n 3, 1) := by decide +kernel
theorem d_Model_merge_48 : decode b_Model_merge 48 = .ok (.iload 4, 2) := by decide +kernel
theorem d_Model_merge_50 : decode b_Model_merge 50 = .ok (.invokevirtual 125, 3) := by decide +kernel
theorem d_Model_merge_53 : decode b_Model_merge 53 = .ok (.ifCond .eq 14, 3) := by decide +kernel
theorem d_Model_merge_56 : decode b_Model_merge 56 = .ok (.aload_n 0, 1) := by decide +kernel
theorem d_Model_merge_57 : decode b_Model_merge 57 = .ok (.iload_n 2, 1) := by decide +kernel
theorem d_Model_merge_58 : decode b_Model_merge 58 = .ok (.iload_n 3, 1) := by decide +kernel
theorem d_Model_merge_59 : decode b_Model_merge 59 = .ok (.iload 4, 2) := by decide +kernel
theorem d_Model_merge_61 : decode b_Model_merge 61 = .ok (.invokevirtual 125, 3) := by decide +kernel
theorem d_Model_merge_64 : decode b_Model_merge 64 = .ok (.ifCond .ne 7, 3) := by decide +kernel
theorem d_Model_merge_67 : decode b_Model_merge 67 = .ok (.iconst 2, 1) := by decide +kernel
theorem d_Model_merge_68 : decode b_Model_merge 68 = .ok (.goto 4, 3) := by decide +kernel
theorem d_Model_merge_71 : decode b_Model_merge 71 = .ok (.iconst 0, 1) := by decide +kernel
theorem d_Model_merge_72 : decode b_Model_merge 72 = .ok (.putfield 52, 3) := by decide +kernel
theorem d_Model_merge_75 : decode b_Model_merge 75 = .ok (.aload_n 0, 1) := by decide +kernel
theorem d_Model_merge_76 : decode b_Model_merge 76 = .ok (.getfield 52, 3) := by decide +kernel
theorem d_Model_merge_79 : decode b_Model_merge 79 = .ok (.ifCond .le 5, 3) := by decide +kernel
theorem d_Model_merge_82 : decode b_Model_merge 82 = .ok (.iconst 0, 1) := by decide +kernel
theorem d_Model_merge_83 : decode b_Model_merge 83 = .ok (.ireturn, 1) := by decide +kernel
theorem d_Model_merge_84 : decode b_Model_merge 84 = .ok (.iconst 0, 1) := by decide +kernel
theorem d_Model_merge_85 : decode b_Model_merge 85 = .ok (.istore 6, 2) := by decide +kernel
theorem d_Model_merge_87 : decode b_Model_merge 87 = .ok (.iload 6, 2) := by decide +kernel
theorem d_Model_merge_89 : decode b_Model_merge 89 = .ok (.aload_n 0, 1) := by decide +kernel
theorem d_Model_merge_90 : decode b_Model_merge 90 = .ok (.getfield 17, 3) := by decide +kernel
theorem d_Model_merge_93 : decode b_Model_merge 93 = .ok (.iload_n 1, 1) := by decide +kernel
theorem d_Model_merge_94 : decode b_Model_merge 94 = .ok (.iaload, 1) := by decide +kernel
theorem d_Model_merge_95 : decode b_Model_merge 95 = .ok (.if_icmp .ge 24, 3) := by decide +kernel
theorem d_Model_merge_98 : decode b_Model_merge 98 = .ok (.aload_n 0, 1) := by decide +kernel
theorem d_Model_merge_99 : decode b_Model_merge 99 = .ok (.getfield 21, 3) := by decide +kernel
theorem d_Model_merge_102 : decode b_Model_merge 102 = .ok (.iload 6, 2) := by decide +kernel
theorem d_Model_merge_104 : decode b_Model_merge 104 = .ok (.aload_n 0, 1) := by decide +kernel
theorem d_Model_merge_105 : decode b_Model_merge 105 = .ok (.iload_n 1, 1) := by decide +kernel
theorem d_Model_merge_106 : decode b_Model_merge 106 = .ok (.iload 6, 2) := by decide +kernel
theorem d_Model_merge_108 : decode b_Model_merge 108 = .ok (.invokevirtual 98, 3) := by decide +kernel
theorem d_Model_merge_111 : decode b_Model_merge 111 = .ok (.i2s, 1) := by decide +kernel
theorem d_Model_merge_112 : decode b_Model_merge 112 = .ok (.sastore, 1) := by decide +kernel
theorem d_Model_merge_113 : decode b_Model_merge 113 = .ok (.iinc 6 1, 3) := by decide +kernel
theorem d_Model_merge_116 : decode b_Model_merge 116 = .ok (.goto (-29), 3) := by decide +kernel
theorem d_Model_merge_119 : decode b_Model_merge 119 = .ok (.aload_n 0, 1) := by decide +kernel
theorem d_Model_merge_120 : decode b_Model_merge 120 = .ok (.getfield 17, 3) := by decide +kernel
theorem d_Model_merge_123 : decode b_Model_merge 123 = .ok (.iload_n 1, 1) := by decide +kernel
theorem d_Model_merge_124 : decode b_Model_merge 124 = .ok (.iaload, 1) := by decide +kernel
theorem d_Model_merge_125 : decode b_Model_merge 125 = .ok (.istore 6, 2) := by decide +kernel
theorem d_Model_merge_127 : decode b_Model_merge 127 = .ok (.iconst 0, 1) := by decide +kernel
theorem d_Model_merge_128 : decode b_Model_merge 128 = .ok (.istore 7, 2) := by decide +kernel
theorem d_Model_merge_130 : decode b_Model_merge 130 = .ok (.iload 7, 2) := by decide +kernel
theorem d_Model_merge_132 : decode b_Model_merge 132 = .ok (.aload_n 0, 1) := by decide +kernel
theorem d_Model_merge_133 : decode b_Model_merge 133 = .ok (.getfield 17, 3) := by decide +kernel
theorem d_Model_merge_136 : decode b_Model_merge 136 = .ok (.iload_n 2, 1) := by decide +kernel
theorem d_Model_merge_137 : decode b_Model_merge 137 = .ok (.iaload, 1) := by decide +kernel
theorem d_Model_merge_138 : decode b_Model_merge 138 = .ok (.if_icmp .ge 32, 3) := by decide +kernel
theorem d_Model_merge_141 : decode b_Model_merge 141 = .ok (.aload_n 0, 1) := by decide +kernel
theorem d_Model_merge_142 : decode b_Model_merge 142 = .ok (.aload_n 0, 1) := by decide +kernel
theorem d_Model_merge_143 : decode b_Model_merge 143 = .ok (.getfield 21, 3) := by decide +kernel
theorem d_Model_merge_146 : decode b_Model_merge 146 = .ok (.iload 6, 2) := by decide +kernel
theorem d_Model_merge_148 : decode b_Model_merge 148 = .ok (.aload_n 0, 1) := by decide +kernel
theorem d_Model_merge_149 : decode b_Model_merge 149 = .ok (.iload_n 2, 1) := by decide +kernel
theorem d_Model_merge_150 : decode b_Model_merge 150 = .ok (.iload 7, 2) := by decide +kernel
theorem d_Model_merge_152 : decode b_Model_merge 152 = .ok (.invokevirtual 98, 3) := by decide +kernel
theorem d_Model_merge_155 : decode b_Model_merge 155 = .ok (.iload_n 3, 1) := by decide +kernel
theorem d_Model_merge_156 : decode b_Model_merge 156 = .ok (.iload 4, 2) := by decide +kernel
theorem d_Model_merge_158 : decode b_Model_merge 158 = .ok (.invokevirtual 129, 3) := by decide +kernel
theorem d_Model_merge_161 : decode b_Model_merge 161 = .ok (.iinc 6 1, 3) := by decide +kernel
theorem d_Model_merge_164 : decode b_Model_merge 164 = .ok (.iinc 7 1, 3) := by decide +kernel
theorem d_Model_merge_167 : decode b_Model_merge 167 = .ok (.goto (-37), 3) := by decide +kernel
theorem d_Model_merge_170 : decode b_Model_merge 170 = .ok (.iconst 0, 1) := by decide +kernel
theorem d_Model_merge_171 : decode b_Model_merge 171 = .ok (.istore 7, 2) := by decide +kernel
theorem d_Model_merge_173 : decode b_Model_merge 173 = .ok (.iload 7, 2) := by decide +kernel
theorem d_Model_merge_175 : decode b_Model_merge 175 = .ok (.iload 6, 2) := by decide +kernel
theorem d_Model_merge_177 : decode b_Model_merge 177 = .ok (.if_icmp .ge 29, 3) := by decide +kernel
theorem d_Model_merge_180 : decode b_Model_merge 180 = .ok (.aload_n 0, 1) := by decide +kernel
theorem d_Model_merge_181 : decode b_Model_merge 181 = .ok (.getfield 13, 3) := by decide +kernel
theorem d_Model_merge_184 : decode b_Model_merge 184 = .ok (.sipush 200, 3) := by decide +kernel
theorem d_Model_merge_187 : decode b_Model_merge 187 = .ok (.iload_n 1, 1) := by decide +kernel
theorem d_Model_merge_188 : decode b_Model_merge 188 = .ok (.imul, 1) := by decide +kernel
theorem d_Model_merge_189 : decode b_Model_merge 189 = .ok (.iload 7, 2) := by decide +kernel
theorem d_Model_merge_191 : decode b_Model_merge 191 = .ok (.iadd, 1) := by decide +kernel
theorem d_Model_merge_192 : decode b_Model_merge 192 = .ok (.aload_n 0, 1) := by decide +kernel
theorem d_Model_merge_193 : decode b_Model_merge 193 = .ok (.getfield 21, 3) := by decide +kernel
theorem d_Model_merge_196 : decode b_Model_merge 196 = .ok (.iload 7, 2) := by decide +kernel
theorem d_Model_merge_198 : decode b_Model_merge 198 = .ok (.saload, 1) := by decide +kernel
theorem d_Model_merge_199 : decode b_Model_merge 199 = .ok (.sastore, 1) := by decide +kernel
theorem d_Model_merge_200 : decode b_Model_merge 200 = .ok (.iinc 7 1, 3) := by decide +kernel
theorem d_Model_merge_203 : decode b_Model_merge 203 = .ok (.goto (-30), 3) := by decide +kernel
theorem d_Model_merge_206 : decode b_Model_merge 206 = .ok (.aload_n 0, 1) := by decide +kernel
theorem d_Model_merge_207 : decode b_Model_merge 207 = .ok (.dup, 1) := by decide +kernel
theorem d_Model_merge_208 : decode b_Model_merge 208 = .ok (.getfield 133, 3) := by decide +kernel
theorem d_Model_merge_211 : decode b_Model_merge 211 = .ok (.aload_n 0, 1) := by decide +kernel
theorem d_Model_merge_212 : decode b_Model_merge 212 = .ok (.getfield 17, 3) := by decide +kernel
theorem d_Model_merge_215 : decode b_Model_merge 215 = .ok (.iload_n 2, 1) := by decide +kernel
theorem d_Model_merge_216 : decode b_Model_merge 216 = .ok (.iaload, 1) := by decide +kernel
theorem d_Model_merge_217 : decode b_Model_merge 217 = .ok (.iadd, 1) := by decide +kernel
theorem d_Model_merge_218 : decode b_Model_merge 218 = .ok (.putfield 133, 3) := by decide +kernel
theorem d_Model_merge_221 : decode b_Model_merge 221 = .ok (.aload_n 0, 1) := by decide +kernel
theorem d_Model_merge_222 : decode b_Model_merge 222 = .ok (.getfield 17, 3) := by decide +kernel
theorem d_Model_merge_225 : decode b_Model_merge 225 = .ok (.iload_n 1, 1) := by decide +kernel
theorem d_Model_merge_226 : decode b_Model_merge 226 = .ok (.iload 6, 2) := by decide +kernel
theorem d_Model_merge_228 : decode b_Model_merge 228 = .ok (.iastore, 1) := by decide +kernel
theorem d_Model_merge_229 : decode b_Model_merge 229 = .ok (.aload_n 0, 1) := by decide +kernel
theorem d_Model_merge_230 : decode b_Model_merge 230 = .ok (.getfield 17, 3) := by decide +kernel
theorem d_Model_merge_233 : decode b_Model_merge 233 = .ok (.iload_n 2, 1) := by decide +kernel
theorem d_Model_merge_234 : decode b_Model_merge 234 = .ok (.iconst 0, 1) := by decide +kernel
theorem d_Model_merge_235 : decode b_Model_merge 235 = .ok (.iastore, 1) := by decide +kernel
theorem d_Model_merge_236 : decode b_Model_merge 236 = .ok (.iload 6, 2) := by decide +kernel
theorem d_Model_merge_238 : decode b_Model_merge 238 = .ok (.ireturn, 1) := by decide +kernel
theorem v_Model_merge : Cond.instanceMethod y_Model_merge ∈ nm_Ts ∧ Cond.selects y_Model_merge.cls y_Model_merge y_Model_merge ∈ nm_Ts ∧ Cond.initialized y_Model_merge.cls ∈ nm_Ts ∧ Cond.code y_Model_merge b_Model_merge 8 (some .int) ∈ nm_Ts ∧ mz_cl1 y_Model_merge 4 := ⟨nm_t4 234 rfl rfl, nm_t4 235 rfl rfl, nm_t1 12 rfl rfl, nm_t4 236 rfl rfl, by decide +kernel⟩
def y_Model_match : MethodName := ⟨"CardOfficeModel", "match", "(IIIII)I"⟩
abbrev b_Model_match : ByteArray := prog_14_method_34_code
def r_Model_match (c s : Nat) : Room := { frames := 5, cells := c, slots := s, locals := 118 }
theorem d_Model_match_0 : decode b_Model_match 0 = .ok (.iload_n 1, 1) := by decide +kernel
theorem d_Model_match_1 : decode b_Model_match 1 = .ok (.invokestatic 65, 3) := by decide +kernel
theorem d_Model_match_4 : decode b_Model_match 4 = .ok (.ifCond .eq 46, 3) := by decide +kernel
theorem d_Model_match_7 : decode b_Model_match 7 = .ok (.iload_n 2, 1) := by decide +kernel
theorem d_Model_match_8 : decode b_Model_match 8 = .ok (.invokestatic 65, 3) := by decide +kernel
theorem d_Model_match_11 : decode b_Model_match 11 = .ok (.ifCond .eq 39, 3) := by decide +kernel
theorem d_Model_match_14 : decode b_Model_match 14 = .ok (.iload_n 3, 1) := by decide +kernel
theorem d_Model_match_15 : decode b_Model_match 15 = .ok (.invokestatic 65, 3) := by decide +kernel
theorem d_Model_match_18 : decode b_Model_match 18 = .ok (.ifCond .eq 32, 3) := by decide +kernel
theorem d_Model_match_21 : decode b_Model_match 21 = .ok (.iload_n 1, 1) := by decide +kernel
theorem d_Model_match_22 : decode b_Model_match 22 = .ok (.iload_n 2, 1) := by decide +kernel
theorem d_Model_match_23 : decode b_Model_match 23 = .ok (.if_icmp .eq 27, 3) := by decide +kernel
theorem d_Model_match_26 : decode b_Model_match 26 = .ok (.iload_n 1, 1) := by decide +kernel
theorem d_Model_match_27 : decode b_Model_match 27 = .ok (.iload_n 3, 1) := by decide +kernel
theorem d_Model_match_28 : decode b_Model_match 28 = .ok (.if_icmp .eq 22, 3) := by decide +kernel
theorem d_Model_match_31 : decode b_Model_match 31 = .ok (.iload_n 2, 1) := by decide +kernel
theorem d_Model_match_32 : decode b_Model_match 32 = .ok (.iload_n 3, 1) := by decide +kernel
theorem d_Model_match_33 : decode b_Model_match 33 = .ok (.if_icmp .eq 17, 3) := by decide +kernel
theorem d_Model_match_36 : decode b_Model_match 36 = .ok (.iload 4, 2) := by decide +kernel
theorem d_Model_match_38 : decode b_Model_match 38 = .ok (.iload 5, 2) := by decide +kernel
theorem d_Model_match_40 : decode b_Model_match 40 = .ok (.invokestatic 121, 3) := by decide +kernel
theorem d_Model_match_43 : decode b_Model_match 43 = .ok (.ifCond .eq 7, 3) := by decide +kernel
theorem d_Model_match_46 : decode b_Model_match 46 = .ok (.iconst 1, 1) := by decide +kernel
theorem d_Model_match_47 : decode b_Model_match 47 = .ok (.goto 4, 3) := by decide +kernel
theorem d_Model_match_50 : decode b_Model_match 50 = .ok (.iconst 0, 1) := by decide +kernel
theorem d_Model_match_51 : decode b_Model_match 51 = .ok (.istore 6, 2) := by decide +kernel
theorem d_Model_match_53 : decode b_Model_match 53 = .ok (.aload_n 0, 1) := by decide +kernel
theorem d_Model_match_54 : decode b_Model_match 54 = .ok (.iload 6, 2) := by decide +kernel
theorem d_Model_match_56 : decode b_Model_match 56 = .ok (.ifCond .ne 7, 3) := by decide +kernel
theorem d_Model_match_59 : decode b_Model_match 59 = .ok (.iconst 1, 1) := by decide +kernel
theorem d_Model_match_60 : decode b_Model_match 60 = .ok (.goto 32, 3) := by decide +kernel
theorem d_Model_match_63 : decode b_Model_match 63 = .ok (.aload_n 0, 1) := by decide +kernel
theorem d_Model_match_64 : decode b_Model_match 64 = .ok (.iload_n 1, 1) := by decide +kernel
theorem d_Model_match_65 : decode b_Model_match 65 = .ok (.iload 4, 2) := by decide +kernel
theorem d_Model_match_67 : decode b_Model_match 67 = .ok (.iload 5, 2) := by decide +kernel
theorem d_Model_match_69 : decode b_Model_match 69 = .ok (.invokevirtual 125, 3) := by decide +kernel
theorem d_Model_match_72 : decode b_Model_match 72 = .ok (.ifCond .eq 15, 3) := by decide +kernel
theorem d_Model_match_75 : decode b_Model_match 75 = .ok (.aload_n 0, 1) := by decide +kernel
theorem d_Model_match_76 : decode b_Model_match 76 = .ok (.iload_n 2, 1) := by decide +kernel
theorem d_Model_match_77 : decode b_Model_match 77 = .ok (.iload 4, 2) := by decide +kernel
theorem d_Model_match_79 : decode b_Model_match 79 = .ok (.iload 5, 2) := by decide +kernel
theorem d_Model_match_81 : decode b_Model_match 81 = .ok (.invokevirtual 125, 3) := by decide +kernel
theorem d_Model_match_84 : decode b_Model_match 84 = .ok (.ifCond .ne 7, 3) := by decide +kernel
theorem d_Model_match_87 : decode b_Model_match 87 = .ok (.iconst 2, 1) := by decide +kernel
theorem d_Model_match_88 : decode b_Model_match 88 = .ok (.goto 4, 3) := by decide +kernel
theorem d_Model_match_91 : decode b_Model_match 91 = .ok (.iconst 0, 1) := by decide +kernel
theorem d_Model_match_92 : decode b_Model_match 92 = .ok (.putfield 52, 3) := by decide +kernel
theorem d_Model_match_95 : decode b_Model_match 95 = .ok (.aload_n 0, 1) := by decide +kernel
theorem d_Model_match_96 : decode b_Model_match 96 = .ok (.getfield 52, 3) := by decide +kernel
theorem d_Model_match_99 : decode b_Model_match 99 = .ok (.ifCond .le 5, 3) := by decide +kernel
theorem d_Model_match_102 : decode b_Model_match 102 = .ok (.iconst 0, 1) := by decide +kernel
theorem d_Model_match_103 : decode b_Model_match 103 = .ok (.ireturn, 1) := by decide +kernel
theorem d_Model_match_104 : decode b_Model_match 104 = .ok (.aload_n 0, 1) := by decide +kernel
theorem d_Model_match_105 : decode b_Model_match 105 = .ok (.iload_n 1, 1) := by decide +kernel
theorem d_Model_match_106 : decode b_Model_match 106 = .ok (.iload_n 2, 1) := by decide +kernel
theorem d_Model_match_107 : decode b_Model_match 107 = .ok (.iload 4, 2) := by decide +kernel
theorem d_Model_match_109 : decode b_Model_match 109 = .ok (.iload 5, 2) := by decide +kernel
theorem d_Model_match_111 : decode b_Model_match 111 = .ok (.iconst 0, 1) := by decide +kernel
theorem d_Model_match_112 : decode b_Model_match 112 = .ok (.invokevirtual 140, 3) := by decide +kernel
theorem d_Model_match_115 : decode b_Model_match 115 = .ok (.istore 7, 2) := by decide +kernel
theorem d_Model_match_117 : decode b_Model_match 117 = .ok (.aload_n 0, 1) := by decide +kernel
theorem d_Model_match_118 : decode b_Model_match 118 = .ok (.iload_n 2, 1) := by decide +kernel
theorem d_Model_match_119 : decode b_Model_match 119 = .ok (.iload_n 1, 1) := by decide +kernel
theorem d_Model_match_120 : decode b_Model_match 120 = .ok (.iload 4, 2) := by decide +kernel
theorem d_Model_match_122 : decode b_Model_match 122 = .ok (.iload 5, 2) := by decide +kernel
theorem d_Model_match_124 : decode b_Model_match 124 = .ok (.iload 7, 2) := by decide +kernel
theorem d_Model_match_126 : decode b_Model_match 126 = .ok (.invokevirtual 140, 3) := by decide +kernel
theorem d_Model_match_129 : decode b_Model_match 129 = .ok (.istore 7, 2) := by decide +kernel
theorem d_Model_match_131 : decode b_Model_match 131 = .ok (.aload_n 0, 1) := by decide +kernel
theorem d_Model_match_132 : decode b_Model_match 132 = .ok (.iload_n 1, 1) := by decide +kernel
theorem d_Model_match_133 : decode b_Model_match 133 = .ok (.iload 7, 2) := by decide +kernel
theorem d_Model_match_135 : decode b_Model_match 135 = .ok (.iload 4, 2) := by decide +kernel
theorem d_Model_match_137 : decode b_Model_match 137 = .ok (.iload 5, 2) := by decide +kernel
theorem d_Model_match_139 : decode b_Model_match 139 = .ok (.invokevirtual 144, 3) := by decide +kernel
theorem d_Model_match_142 : decode b_Model_match 142 = .ok (.aload_n 0, 1) := by decide +kernel
theorem d_Model_match_143 : decode b_Model_match 143 = .ok (.iload_n 2, 1) := by decide +kernel
theorem d_Model_match_144 : decode b_Model_match 144 = .ok (.iload 7, 2) := by decide +kernel
theorem d_Model_match_146 : decode b_Model_match 146 = .ok (.iload 4, 2) := by decide +kernel
theorem d_Model_match_148 : decode b_Model_match 148 = .ok (.iload 5, 2) := by decide +kernel
theorem d_Model_match_150 : decode b_Model_match 150 = .ok (.invokevirtual 144, 3) := by decide +kernel
theorem d_Model_match_153 : decode b_Model_match 153 = .ok (.iconst 0, 1) := by decide +kernel
theorem d_Model_match_154 : decode b_Model_match 154 = .ok (.istore 8, 2) := by decide +kernel
theorem d_Model_match_156 : decode b_Model_match 156 = .ok (.iload 8, 2) := by decide +kernel
theorem d_Model_match_158 : decode b_Model_match 158 = .ok (.iload 7, 2) := by decide +kernel
theorem d_Model_match_160 : decode b_Model_match 160 = .ok (.if_icmp .ge 21, 3) := by decide +kernel
theorem d_Model_match_163 : decode b_Model_match 163 = .ok (.aload_n 0, 1) := by decide +kernel
theorem d_Model_match_164 : decode b_Model_match 164 = .ok (.iload_n 3, 1) := by decide +kernel
theorem d_Model_match_165 : decode b_Model_match 165 = .ok (.aload_n 0, 1) := by decide +kernel
theorem d_Model_match_166 : decode b_Model_match 166 = .ok (.getfield 21, 3) := by decide +kernel
theorem d_Model_match_169 : decode b_Model_match 169 = .ok (.iload 8, 2) := by decide +kernel
theorem d_Model_match_171 : decode b_Model_match 171 = .ok (.saload, 1) := by decide +kernel
theorem d_Model_match_172 : decode b_Model_match 172 = .ok (.invokevirtual 78, 3) := by decide +kernel
theorem d_Model_match_175 : decode b_Model_match 175 = .ok (.iinc 8 1, 3) := by decide +kernel
theorem d_Model_match_178 : decode b_Model_match 178 = .ok (.goto (-22), 3) := by decide +kernel
theorem d_Model_match_181 : decode b_Model_match 181 = .ok (.aload_n 0, 1) := by decide +kernel
theorem d_Model_match_182 : decode b_Model_match 182 = .ok (.dup, 1) := by decide +kernel
theorem d_Model_match_183 : decode b_Model_match 183 = .ok (.getfield 133, 3) := by decide +kernel
theorem d_Model_match_186 : decode b_Model_match 186 = .ok (.iload 7, 2) := by decide +kernel
theorem d_Model_match_188 : decode b_Model_match 188 = .ok (.iadd, 1) := by decide +kernel
theorem d_Model_match_189 : decode b_Model_match 189 = .ok (.putfield 133, 3) := by decide +kernel
theorem d_Model_match_192 : decode b_Model_match 192 = .ok (.iload 7, 2) := by decide +kernel
theorem d_Model_match_194 : decode b_Model_match 194 = .ok (.ireturn, 1) := by decide +kernel
theorem v_Model_match : Cond.instanceMethod y_Model_match ∈ nm_Ts ∧ Cond.selects y_Model_match.cls y_Model_match y_Model_match ∈ nm_Ts ∧ Cond.initialized y_Model_match.cls ∈ nm_Ts ∧ Cond.code y_Model_match b_Model_match 9 (some .int) ∈ nm_Ts ∧ mz_cl1 y_Model_match 5 := ⟨nm_t4 238 rfl rfl, nm_t4 239 rfl rfl, nm_t1 12 rfl rfl, nm_t5 0 rfl rfl, by decide +kernel⟩
def y_Model_take : MethodName := ⟨"CardOfficeModel", "take", "(IIIII)I"⟩
abbrev b_Model_take : ByteArray := prog_14_method_32_code
def r_Model_take (c s : Nat) : Room := { frames := 4, cells := c, slots := s, locals := 91 }
theorem d_Model_take_0 : decode b_Model_take 0 = .ok (.iload 5, 2) := by decide +kernel
theorem d_Model_take_2 : decode b_Model_take 2 = .ok (.istore 6, 2) := by decide +kernel
theorem d_Model_take_4 : decode b_Model_take 4 = .ok (.iconst 0, 1) := by decide +kernel
theorem d_Model_take_5 : decode b_Model_take 5 = .ok (.istore 7, 2) := by decide +kernel
theorem d_Model_take_7 : decode b_Model_take 7 = .ok (.iload 7, 2) := by decide +kernel
theorem d_Model_take_9 : decode b_Model_take 9 = .ok (.aload_n 0, 1) := by decide +kernel
theorem d_Model_take_10 : decode b_Model_take 10 = .ok (.getfield 17, 3) := by decide +kernel
theorem d_Model_take_13 : decode b_Model_take 13 = .ok (.iload_n 1, 1) := by decide +kernel
theorem d_Model_take_14 : decode b_Model_take 14 = .ok (.iaload, 1) := by decide +kernel
theorem d_Model_take_15 : decode b_Model_take 15 = .ok (.if_icmp .ge 50, 3) := by decide +kernel
theorem d_Model_take_18 : decode b_Model_take 18 = .ok (.aload_n 0, 1) := by decide +kernel
theorem d_Model_take_19 : decode b_Model_take 19 = .ok (.iload_n 2, 1) := by decide +kernel
theorem d_Model_take_20 : decode b_Model_take 20 = .ok (.aload_n 0, 1) := by decide +kernel
theorem d_Model_take_21 : decode b_Model_take 21 = .ok (.iload_n 1, 1) := by decide +kernel
theorem d_Model_take_22 : decode b_Model_take 22 = .ok (.iload 7, 2) := by decide +kernel
theorem d_Model_take_24 : decode b_Model_take 24 = .ok (.invokevirtual 98, 3) := by decide +kernel
theorem d_Model_take_27 : decode b_Model_take 27 = .ok (.iload_n 3, 1) := by decide +kernel
theorem d_Model_take_28 : decode b_Model_take 28 = .ok (.iload 4, 2) := by decide +kernel
theorem d_Model_take_30 : decode b_Model_take 30 = .ok (.invokevirtual 136, 3) := by decide +kernel
theorem d_Model_take_33 : decode b_Model_take 33 = .ok (.ifCond .eq 26, 3) := by decide +kernel
theorem d_Model_take_36 : decode b_Model_take 36 = .ok (.aload_n 0, 1) := by decide +kernel
theorem d_Model_take_37 : decode b_Model_take 37 = .ok (.aload_n 0, 1) := by decide +kernel
theorem d_Model_take_38 : decode b_Model_take 38 = .ok (.getfield 21, 3) := by decide +kernel
theorem d_Model_take_41 : decode b_Model_take 41 = .ok (.iload 6, 2) := by decide +kernel
theorem d_Model_take_43 : decode b_Model_take 43 = .ok (.aload_n 0, 1) := by decide +kernel
theorem d_Model_take_44 : decode b_Model_take 44 = .ok (.iload_n 1, 1) := by decide +kernel
theorem d_Model_take_45 : decode b_Model_take 45 = .ok (.iload 7, 2) := by decide +kernel
theorem d_Model_take_47 : decode b_Model_take 47 = .ok (.invokevirtual 98, 3) := by decide +kernel
theorem d_Model_take_50 : decode b_Model_take 50 = .ok (.iload_n 3, 1) := by decide +kernel
theorem d_Model_take_51 : decode b_Model_take 51 = .ok (.iload 4, 2) := by decide +kernel
theorem d_Model_take_53 : decode b_Model_take 53 = .ok (.invokevirtual 129, 3) := by decide +kernel
theorem d_Model_take_56 : decode b_Model_take 56 = .ok (.iinc 6 1, 3) := by decide +kernel
theorem d_Model_take_59 : decode b_Model_take 59 = .ok (.iinc 7 1, 3) := by decide +kernel
theorem d_Model_take_62 : decode b_Model_take 62 = .ok (.goto (-55), 3) := by decide +kernel
theorem d_Model_take_65 : decode b_Model_take 65 = .ok (.iload 6, 2) := by decide +kernel
theorem d_Model_take_67 : decode b_Model_take 67 = .ok (.ireturn, 1) := by decide +kernel
theorem v_Model_take : Cond.instanceMethod y_Model_take ∈ nm_Ts ∧ Cond.selects y_Model_take.cls y_Model_take y_Model_take ∈ nm_Ts ∧ Cond.initialized y_Model_take.cls ∈ nm_Ts ∧ Cond.code y_Model_take b_Model_take 8 (some .int) ∈ nm_Ts ∧ mz_cl1 y_Model_take 5 := ⟨nm_t5 3 rfl rfl, nm_s 28 rfl rfl, nm_t1 12 rfl rfl, nm_t5 4 rfl rfl, by decide +kernel⟩
def y_Model_hasKey : MethodName := ⟨"CardOfficeModel", "hasKey", "(IIII)Z"⟩
abbrev b_Model_hasKey : ByteArray := prog_14_method_31_code
def r_Model_hasKey (c s : Nat) : Room := { frames := 3, cells := c, slots := s, locals := 65 }
theorem d_Model_hasKey_0 : decode b_Model_hasKey 0 = .ok (.iconst 0, 1) := by decide +kernel
theorem d_Model_hasKey_1 : decode b_Model_hasKey 1 = .ok (.istore 5, 2) := by decide +kernel
theorem d_Model_hasKey_3 : decode b_Model_hasKey 3 = .ok (.iconst 0, 1) := by decide +kernel
theorem d_Model_hasKey_4 : decode b_Model_hasKey 4 = .ok (.istore 6, 2) := by decide +kernel
theorem d_Model_hasKey_6 : decode b_Model_hasKey 6 = .ok (.iload 6, 2) := by decide +kernel
theorem d_Model_hasKey_8 : decode b_Model_hasKey 8 = .ok (.aload_n 0, 1) := by decide +kernel
theorem d_Model_hasKey_9 : decode b_Model_hasKey 9 = .ok (.getfield 17, 3) := by decide +kernel
theorem d_Model_hasKey_12 : decode b_Model_hasKey 12 = .ok (.iload_n 1, 1) := by decide +kernel
theorem d_Model_hasKey_13 : decode b_Model_hasKey 13 = .ok (.iaload, 1) := by decide +kernel
theorem d_Model_hasKey_14 : decode b_Model_hasKey 14 = .ok (.if_icmp .ge 39, 3) := by decide +kernel
theorem d_Model_hasKey_17 : decode b_Model_hasKey 17 = .ok (.iload 5, 2) := by decide +kernel
theorem d_Model_hasKey_19 : decode b_Model_hasKey 19 = .ok (.ifCond .ne 21, 3) := by decide +kernel
theorem d_Model_hasKey_22 : decode b_Model_hasKey 22 = .ok (.aload_n 0, 1) := by decide +kernel
theorem d_Model_hasKey_23 : decode b_Model_hasKey 23 = .ok (.aload_n 0, 1) := by decide +kernel
theorem d_Model_hasKey_24 : decode b_Model_hasKey 24 = .ok (.iload_n 1, 1) := by decide +kernel
theorem d_Model_hasKey_25 : decode b_Model_hasKey 25 = .ok (.iload 6, 2) := by decide +kernel
theorem d_Model_hasKey_27 : decode b_Model_hasKey 27 = .ok (.invokevirtual 98, 3) := by decide +kernel
theorem d_Model_hasKey_30 : decode b_Model_hasKey 30 = .ok (.iload_n 2, 1) := by decide +kernel
theorem d_Model_hasKey_31 : decode b_Model_hasKey 31 = .ok (.iload_n 3, 1) := by decide +kernel
theorem d_Model_hasKey_32 : decode b_Model_hasKey 32 = .ok (.iload 4, 2) := by decide +kernel
theorem d_Model_hasKey_34 : decode b_Model_hasKey 34 = .ok (.invokevirtual 117, 3) := by decide +kernel
theorem d_Model_hasKey_37 : decode b_Model_hasKey 37 = .ok (.ifCond .ne 7, 3) := by decide +kernel
theorem d_Model_hasKey_40 : decode b_Model_hasKey 40 = .ok (.iconst 1, 1) := by decide +kernel
theorem d_Model_hasKey_41 : decode b_Model_hasKey 41 = .ok (.goto 4, 3) := by decide +kernel
theorem d_Model_hasKey_44 : decode b_Model_hasKey 44 = .ok (.iconst 0, 1) := by decide +kernel
theorem d_Model_hasKey_45 : decode b_Model_hasKey 45 = .ok (.istore 5, 2) := by decide +kernel
theorem d_Model_hasKey_47 : decode b_Model_hasKey 47 = .ok (.iinc 6 1, 3) := by decide +kernel
theorem d_Model_hasKey_50 : decode b_Model_hasKey 50 = .ok (.goto (-44), 3) := by decide +kernel
theorem d_Model_hasKey_53 : decode b_Model_hasKey 53 = .ok (.iload 5, 2) := by decide +kernel
theorem d_Model_hasKey_55 : decode b_Model_hasKey 55 = .ok (.ireturn, 1) := by decide +kernel
theorem v_Model_hasKey : Cond.instanceMethod y_Model_hasKey ∈ nm_Ts ∧ Cond.selects y_Model_hasKey.cls y_Model_hasKey y_Model_hasKey ∈ nm_Ts ∧ Cond.initialized y_Model_hasKey.cls ∈ nm_Ts ∧ Cond.code y_Model_hasKey b_Model_hasKey 7 (some .boolean) ∈ nm_Ts ∧ mz_cl1 y_Model_hasKey 4 := ⟨nm_t5 7 rfl rfl, nm_s 29 rfl rfl, nm_t1 12 rfl rfl, nm_t5 8 rfl rfl, by decide +kernel⟩
def y_Model_leave : MethodName := ⟨"CardOfficeModel", "leave", "(IIII)V"⟩
abbrev b_Model_leave : ByteArray := prog_14_method_33_code
def r_Model_leave (c s : Nat) : Room := { frames := 1, cells := c, slots := s, locals := 22 }
theorem d_Model_leave_0 : decode b_Model_leave 0 = .ok (.iconst 0, 1) := by decide +kernel
theorem d_Model_leave_1 : decode b_Model_leave 1 = .ok (.istore 5, 2) := by decide +kernel
theorem d_Model_leave_3 : decode b_Model_leave 3 = .ok (.iconst 0, 1) := by decide +kernel
theorem d_Model_leave_4 : decode b_Model_leave 4 = .ok (.istore 6, 2) := by decide +kernel
theorem d_Model_leave_6 : decode b_Model_leave 6 = .ok (.iload 6, 2) := by decide +kernel
theorem d_Model_leave_8 : decode b_Model_leave 8 = .ok (.aload_n 0, 1) := by decide +kernel
theorem d_Model_leave_9 : decode b_Model_leave 9 = .ok (.getfield 17, 3) := by decide +kernel
theorem d_Model_leave_12 : decode b_Model_leave 12 = .ok (.iload_n 1, 1) := by decide +kernel
theorem d_Model_leave_13 : decode b_Model_leave 13 = .ok (.iaload, 1) := by decide +kernel
theorem d_Model_leave_14 : decode b_Model_leave 14 = .ok (.if_icmp .ge 79, 3) := by decide +kernel
theorem d_Model_leave_17 : decode b_Model_leave 17 = .ok (.iconst 0, 1) := by decide +kernel
theorem d_Model_leave_18 : decode b_Model_leave 18 = .ok (.istore 7, 2) := by decide +kernel
theorem d_Model_leave_20 : decode b_Model_leave 20 = .ok (.iconst 0, 1) := by decide +kernel
theorem d_Model_leave_21 : decode b_Model_leave 21 = .ok (.istore 8, 2) := by decide +kernel
theorem d_Model_leave_23 : decode b_Model_leave 23 = .ok (.iload 8, 2) := by decide +kernel
theorem d_Model_leave_25 : decode b_Model_leave 25 = .ok (.iload_n 2, 1) := by decide +kernel
theorem d_Model_leave_26 : decode b_Model_leave 26 = .ok (.if_icmp .ge 38, 3) := by decide +kernel
theorem d_Model_leave_29 : decode b_Model_leave 29 = .ok (.iload 7, 2) := by decide +kernel
theorem d_Model_leave_31 : decode b_Model_leave 31 = .ok (.ifCond .ne 20, 3) := by decide +kernel
theorem d_Model_leave_34 : decode b_Model_leave 34 = .ok (.aload_n 0, 1) := by decide +kernel
theorem d_Model_leave_35 : decode b_Model_leave 35 = .ok (.getfield 21, 3) := by decide +kernel
theorem d_Model_leave_38 : decode b_Model_leave 38 = .ok (.iload 8, 2) := by decide +kernel
theorem d_Model_leave_40 : decode b_Model_leave 40 = .ok (.saload, 1) := by decide +kernel
theorem d_Model_leave_41 : decode b_Model_leave 41 = .ok (.aload_n 0, 1) := by decide +kernel
theorem d_Model_leave_42 : decode b_Model_leave 42 = .ok (.iload_n 1, 1) := by decide +kernel
theorem d_Model_leave_43 : decode b_Model_leave 43 = .ok (.iload 6, 2) := by decide +kernel
theorem d_Model_leave_45 : decode b_Model_leave 45 = .ok (.invokevirtual 98, 3) := by decide +kernel
theorem d_Model_leave_48 : decode b_Model_leave 48 = .ok (.if_icmp .ne 7, 3) := by decide +kernel
theorem d_Model_leave_51 : decode b_Model_leave 51 = .ok (.iconst 1, 1) := by decide +kernel
theorem d_Model_leave_52 : decode b_Model_leave 52 = .ok (.goto 4, 3) := by decide +kernel
theorem d_Model_leave_55 : decode b_Model_leave 55 = .ok (.iconst 0, 1) := by decide +kernel
theorem d_Model_leave_56 : decode b_Model_leave 56 = .ok (.istore 7, 2) := by decide +kernel
theorem d_Model_leave_58 : decode b_Model_leave 58 = .ok (.iinc 8 1, 3) := by decide +kernel
theorem d_Model_leave_61 : decode b_Model_leave 61 = .ok (.goto (-38), 3) := by decide +kernel
theorem d_Model_leave_64 : decode b_Model_leave 64 = .ok (.iload 7, 2) := by decide +kernel
theorem d_Model_leave_66 : decode b_Model_leave 66 = .ok (.ifCond .ne 21, 3) := by decide +kernel
theorem d_Model_leave_69 : decode b_Model_leave 69 = .ok (.aload_n 0, 1) := by decide +kernel
theorem d_Model_leave_70 : decode b_Model_leave 70 = .ok (.getfield 24, 3) := by decide +kernel
theorem d_Model_leave_73 : decode b_Model_leave 73 = .ok (.iload 5, 2) := by decide +kernel
theorem d_Model_leave_75 : decode b_Model_leave 75 = .ok (.aload_n 0, 1) := by decide +kernel
theorem d_Model_leave_76 : decode b_Model_leave 76 = .ok (.iload_n 1, 1) := by decide +kernel
theorem d_Model_leave_77 : decode b_Model_leave 77 = .ok (.iload 6, 2) := by decide +kernel
theorem d_Model_leave_79 : decode b_Model_leave 79 = .ok (.invokevirtual 98, 3) := by decide +kernel
theorem d_Model_leave_82 : decode b_Model_leave 82 = .ok (.i2s, 1) := by decide +kernel
theorem d_Model_leave_83 : decode b_Model_leave 83 = .ok (.sastore, 1) := by decide +kernel
theorem d_Model_leave_84 : decode b_Model_leave 84 = .ok (.iinc 5 1, 3) := by decide +kernel
theorem d_Model_leave_87 : decode b_Model_leave 87 = .ok (.iinc 6 1, 3) := by decide +kernel
theorem d_Model_leave_90 : decode b_Model_leave 90 = .ok (.goto (-84), 3) := by decide +kernel
theorem d_Model_leave_93 : decode b_Model_leave 93 = .ok (.aload_n 0, 1) := by decide +kernel
theorem d_Model_leave_94 : decode b_Model_leave 94 = .ok (.getfield 17, 3) := by decide +kernel
theorem d_Model_leave_97 : decode b_Model_leave 97 = .ok (.iload_n 1, 1) := by decide +kernel
theorem d_Model_leave_98 : decode b_Model_leave 98 = .ok (.iload 5, 2) := by decide +kernel
theorem d_Model_leave_100 : decode b_Model_leave 100 = .ok (.iastore, 1) := by decide +kernel
theorem d_Model_leave_101 : decode b_Model_leave 101 = .ok (.iconst 0, 1) := by decide +kernel
theorem d_Model_leave_102 : decode b_Model_leave 102 = .ok (.istore 6, 2) := by decide +kernel
theorem d_Model_leave_104 : decode b_Model_leave 104 = .ok (.iload 6, 2) := by decide +kernel
theorem d_Model_leave_106 : decode b_Model_leave 106 = .ok (.iload 5, 2) := by decide +kernel
theorem d_Model_leave_108 : decode b_Model_leave 108 = .ok (.if_icmp .ge 29, 3) := by decide +kernel
theorem d_Model_leave_111 : decode b_Model_leave 111 = .ok (.aload_n 0, 1) := by decide +kernel
theorem d_Model_leave_112 : decode b_Model_leave 112 = .ok (.getfield 13, 3) := by decide +kernel
theorem d_Model_leave_115 : decode b_Model_leave 115 = .ok (.sipush 200, 3) := by decide +kernel
theorem d_Model_leave_118 : decode b_Model_leave 118 = .ok (.iload_n 1, 1) := by decide +kernel
theorem d_Model_leave_119 : decode b_Model_leave 119 = .ok (.imul, 1) := by decide +kernel
theorem d_Model_leave_120 : decode b_Model_leave 120 = .ok (.iload 6, 2) := by decide +kernel
theorem d_Model_leave_122 : decode b_Model_leave 122 = .ok (.iadd, 1) := by decide +kernel
theorem d_Model_leave_123 : decode b_Model_leave 123 = .ok (.aload_n 0, 1) := by decide +kernel
theorem d_Model_leave_124 : decode b_Model_leave 124 = .ok (.getfield 24, 3) := by decide +kernel
theorem d_Model_leave_127 : decode b_Model_leave 127 = .ok (.iload 6, 2) := by decide +kernel
theorem d_Model_leave_129 : decode b_Model_leave 129 = .ok (.saload, 1) := by decide +kernel
theorem d_Model_leave_130 : decode b_Model_leave 130 = .ok (.sastore, 1) := by decide +kernel
theorem d_Model_leave_131 : decode b_Model_leave 131 = .ok (.iinc 6 1, 3) := by decide +kernel
theorem d_Model_leave_134 : decode b_Model_leave 134 = .ok (.goto (-30), 3) := by decide +kernel
theorem d_Model_leave_137 : decode b_Model_leave 137 = .ok (.return_, 1) := by decide +kernel
theorem d_Model_leave : decode b_Model_leave 0 = .ok (.iconst 0, 1) ∧ decode b_Model_leave 1 = .ok (.istore 5, 2) ∧ decode b_Model_leave 3 = .ok (.iconst 0, 1) ∧ decode b_Model_leave 4 = .ok (.istore 6, 2) ∧ decode b_Model_leave 6 = .ok (.iload 6, 2) ∧ decode b_Model_leave 8 = .ok (.aload_n 0, 1) ∧ decode b_Model_leave 9 = .ok (.getfield 17, 3) ∧ decode b_Model_leave 12 = .ok (.iload_n 1, 1) ∧ decode b_Model_leave 13 = .ok (.iaload, 1) ∧ decode b_Model_leave 14 = .ok (.if_icmp .ge 79, 3) ∧ decode b_Model_leave 17 = .ok (.iconst 0, 1) ∧ decode b_Model_leave 18 = .ok (.istore 7, 2) ∧ decode b_Model_leave 20 = .ok (.iconst 0, 1) ∧ decode b_Model_leave 21 = .ok (.istore 8, 2) ∧ decode b_Model_leave 23 = .ok (.iload 8, 2) ∧ decode b_Model_leave 25 = .ok (.iload_n 2, 1) ∧ decode b_Model_leave 26 = .ok (.if_icmp .ge 38, 3) ∧ decode b_Model_leave 29 = .ok (.iload 7, 2) ∧ decode b_Model_leave 31 = .ok (.ifCond .ne 20, 3) ∧ decode b_Model_leave 34 = .ok (.aload_n 0, 1) ∧ decode b_Model_leave 35 = .ok (.getfield 21, 3) ∧ decode b_Model_leave 38 = .ok (.iload 8, 2) ∧ decode b_Model_leave 40 = .ok (.saload, 1) ∧ decode b_Model_leave 41 = .ok (.aload_n 0, 1) ∧ decode b_Model_leave 42 = .ok (.iload_n 1, 1) ∧ decode b_Model_leave 43 = .ok (.iload 6, 2) ∧ decode b_Model_leave 45 = .ok (.invokevirtual 98, 3) ∧ decode b_Model_leave 48 = .ok (.if_icmp .ne 7, 3) ∧ decode b_Model_leave 51 = .ok (.iconst 1, 1) ∧ decode b_Model_leave 52 = .ok (.goto 4, 3) ∧ decode b_Model_leave 55 = .ok (.iconst 0, 1) ∧ decode b_Model_leave 56 = .ok (.istore 7, 2) ∧ decode b_Model_leave 58 = .ok (.iinc 8 1, 3) ∧ decode b_Model_leave 61 = .ok (.goto (-38), 3) ∧ decode b_Model_leave 64 = .ok (.iload 7, 2) ∧ decode b_Model_leave 66 = .ok (.ifCond .ne 21, 3) ∧ decode b_Model_leave 69 = .ok (.aload_n 0, 1) ∧ decode b_Model_leave 70 = .ok (.getfield 24, 3) ∧ decode b_Model_leave 73 = .ok (.iload 5, 2) ∧ decode b_Model_leave 75 = .ok (.aload_n 0, 1) ∧ decode b_Model_leave 76 = .ok (.iload_n 1, 1) ∧ decode b_Model_leave 77 = .ok (.iload 6, 2) ∧ decode b_Model_leave 79 = .ok (.invokevirtual 98, 3) ∧ decode b_Model_leave 82 = .ok (.i2s, 1) ∧ decode b_Model_leave 83 = .ok (.sastore, 1) ∧ decode b_Model_leave 84 = .ok (.iinc 5 1, 3) ∧ decode b_Model_leave 87 = .ok (.iinc 6 1, 3) ∧ decode b_Model_leave 90 = .ok (.goto (-84), 3) ∧ decode b_Model_leave 93 = .ok (.aload_n 0, 1) ∧ decode b_Model_leave 94 = .ok (.getfield 17, 3) ∧ decode b_Model_leave 97 = .ok (.iload_n 1, 1) ∧ decode b_Model_leave 98 = .ok (.iload 5, 2) ∧ decode b_Model_leave 100 = .ok (.iastore, 1) ∧ decode b_Model_leave 101 = .ok (.iconst 0, 1) ∧ decode b_Model_leave 102 = .ok (.istore 6, 2) ∧ decode b_Model_leave 104 = .ok (.iload 6, 2) ∧ decode b_Model_leave 106 = .ok (.iload 5, 2) ∧ decode b_Model_leave 108 = .ok (.if_icmp .ge 29, 3) ∧ decode b_Model_leave 111 = .ok (.aload_n 0, 1) ∧ decode b_Model_leave 112 = .ok (.getfield 13, 3) ∧ decode b_Model_leave 115 = .ok (.sipush 200, 3) ∧ decode b_Model_leave 118 = .ok (.iload_n 1, 1) ∧ decode b_Model_leave 119 = .ok (.imul, 1) ∧ decode b_Model_leave 120 = .ok (.iload 6, 2) ∧ decode b_Model_leave 122 = .ok (.iadd, 1) ∧ decode b_Model_leave 123 = .ok (.aload_n 0, 1) ∧ decode b_Model_leave 124 = .ok (.getfield 24, 3) ∧ decode b_Model_leave 127 = .ok (.iload 6, 2) ∧ decode b_Model_leave 129 = .ok (.saload, 1) ∧ decode b_Model_leave 130 = .ok (.sastore, 1) ∧ decode b_Model_leave 131 = .ok (.iinc 6 1, 3) ∧ decode b_Model_leave 134 = .ok (.goto (-30), 3) ∧ decode b_Model_leave 137 = .ok (.return_, 1) := ⟨d_Model_leave_0, d_Model_leave_1, d_Model_leave_3, d_Model_leave_4, d_Model_leave_6, d_Model_leave_8, d_Model_leave_9, d_Model_leave_12, d_Model_leave_13, d_Model_leave_14, d_Model_leave_17, d_Model_leave_18, d_Model_leave_20, d_Model_leave_21, d_Model_leave_23, d_Model_leave_25, d_Model_leave_26, d_Model_leave_29, d_Model_leave_31, d_Model_leave_34, d_Model_leave_35, d_Model_leave_38, d_Model_leave_40, d_Model_leave_41, d_Model_leave_42, d_Model_leave_43, d_Model_leave_45, d_Model_leave_48, d_Model_leave_51, d_Model_leave_52, d_Model_leave_55, d_Model_leave_56, d_Model_leave_58, d_Model_leave_61, d_Model_leave_64, d_Model_leave_66, d_Model_leave_69, d_Model_leave_70, d_Model_leave_73, d_Model_leave_75, d_Model_leave_76, d_Model_leave_77, d_Model_leave_79, d_Model_leave_82, d_Model_leave_83, d_Model_leave_84, d_Model_leave_87, d_Model_leave_90, d_Model_leave_93, d_Model_leave_94, d_Model_leave_97, d_Model_leave_98, d_Model_leave_100, d_Model_leave_101, d_Model_leave_102, d_Model_leave_104, d_Model_leave_106, d_Model_leave_108, d_Model_leave_111, d_Model_leave_112, d_Model_leave_115, d_Model_leave_118, d_Model_leave_119, d_Model_leave_120, d_Model_leave_122, d_Model_leave_123, d_Model_leave_124, d_Model_leave_127, d_Model_leave_129, d_Model_leave_130, d_Model_leave_131, d_Model_leave_134, d_Model_leave_137⟩
theorem v_Model_leave : Cond.instanceMethod y_Model_leave ∈ nm_Ts ∧ Cond.selects y_Model_leave.cls y_Model_leave y_Model_leave ∈ nm_Ts ∧ Cond.initialized y_Model_leave.cls ∈ nm_Ts ∧ Cond.code y_Model_leave b_Model_leave 9 none ∈ nm_Ts ∧ mz_cl1 y_Model_leave 4 := ⟨nm_t5 11 rfl rfl, nm_s 30 rfl rfl, nm_t1 12 rfl rfl, nm_t5 12 rfl rfl, by decide +kernel⟩
def y_Model_reproduce : MethodName := ⟨"CardOfficeModel", "reproduce", "(III)I"⟩
abbrev b_Model_reproduce : ByteArray := prog_14_method_36_code
def r_Model_reproduce (c s : Nat) : Room := { frames := 3, cells := c, slots := s, locals := 71 }
theorem d_Model_reproduce_0 : decode b_Model_reproduce 0 = .ok (.aload_n 0, 1) := by decide +kernel
theorem d_Model_reproduce_1 : decode b_Model_reproduce 1 = .ok (.iload_n 1, 1) := by decide +kernel
theorem d_Model_reproduce_2 : decode b_Model_reproduce 2 = .ok (.invokestatic 82, 3) := by decide +kernel
theorem d_Model_reproduce_5 : decode b_Model_reproduce 5 = .ok (.ifCond .eq 26, 3) := by decide +kernel
theorem d_Model_reproduce_8 : decode b_Model_reproduce 8 = .ok (.iload_n 2, 1) := by decide +kernel
theorem d_Model_reproduce_9 : decode b_Model_reproduce 9 = .ok (.invokestatic 65, 3) := by decide +kernel
theorem d_Model_reproduce_12 : decode b_Model_reproduce 12 = .ok (.ifCond .eq 19, 3) := by decide +kernel
theorem d_Model_reproduce_15 : decode b_Model_reproduce 15 = .ok (.iload_n 3, 1) := by decide +kernel
theorem d_Model_reproduce_16 : decode b_Model_reproduce 16 = .ok (.invokestatic 65, 3) := by decide +kernel
theorem d_Model_reproduce_19 : decode b_Model_reproduce 19 = .ok (.ifCond .eq 12, 3) := by decide +kernel
theorem d_Model_reproduce_22 : decode b_Model_reproduce 22 = .ok (.iload_n 2, 1) := by decide +kernel
theorem d_Model_reproduce_23 : decode b_Model_reproduce 23 = .ok (.iload_n 3, 1) := by decide +kernel
theorem d_Model_reproduce_24 : decode b_Model_reproduce 24 = .ok (.if_icmp .eq 7, 3) := by decide +kernel
theorem d_Model_reproduce_27 : decode b_Model_reproduce 27 = .ok (.iconst 0, 1) := by decide +kernel
theorem d_Model_reproduce_28 : decode b_Model_reproduce 28 = .ok (.goto 4, 3) := by decide +kernel
theorem d_Model_reproduce_31 : decode b_Model_reproduce 31 = .ok (.iconst 1, 1) := by decide +kernel
theorem d_Model_reproduce_32 : decode b_Model_reproduce 32 = .ok (.putfield 52, 3) := by decide +kernel
theorem d_Model_reproduce_35 : decode b_Model_reproduce 35 = .ok (.aload_n 0, 1) := by decide +kernel
theorem d_Model_reproduce_36 : decode b_Model_reproduce 36 = .ok (.getfield 52, 3) := by decide +kernel
theorem d_Model_reproduce_39 : decode b_Model_reproduce 39 = .ok (.ifCond .le 5, 3) := by decide +kernel
theorem d_Model_reproduce_42 : decode b_Model_reproduce 42 = .ok (.iconst 0, 1) := by decide +kernel
theorem d_Model_reproduce_43 : decode b_Model_reproduce 43 = .ok (.ireturn, 1) := by decide +kernel
theorem d_Model_reproduce_44 : decode b_Model_reproduce 44 = .ok (.iconst 0, 1) := by decide +kernel
theorem d_Model_reproduce_45 : decode b_Model_reproduce 45 = .ok (.istore 4, 2) := by decide +kernel
theorem d_Model_reproduce_47 : decode b_Model_reproduce 47 = .ok (.iload 4, 2) := by decide +kernel
theorem d_Model_reproduce_49 : decode b_Model_reproduce 49 = .ok (.aload_n 0, 1) := by decide +kernel
theorem d_Model_reproduce_50 : decode b_Model_reproduce 50 = .ok (.getfield 17, 3) := by decide +kernel
theorem d_Model_reproduce_53 : decode b_Model_reproduce 53 = .ok (.iload_n 2, 1) := by decide +kernel
theorem d_Model_reproduce_54 : decode b_Model_reproduce 54 = .ok (.iaload, 1) := by decide +kernel
theorem d_Model_reproduce_55 : decode b_Model_reproduce 55 = .ok (.if_icmp .ge 162, 3) := by decide +kernel
theorem d_Model_reproduce_58 : decode b_Model_reproduce 58 = .ok (.iconst 0, 1) := by decide +kernel
theorem d_Model_reproduce_59 : decode b_Model_reproduce 59 = .ok (.istore 5, 2) := by decide +kernel
theorem d_Model_reproduce_61 : decode b_Model_reproduce 61 = .ok (.iconst 0, 1) := by decide +kernel
theorem d_Model_reproduce_62 : decode b_Model_reproduce 62 = .ok (.istore 6, 2) := by decide +kernel
theorem d_Model_reproduce_64 : decode b_Model_reproduce 64 = .ok (.iload 6, 2) := by decide +kernel
theorem d_Model_reproduce_66 : decode b_Model_reproduce 66 = .ok (.bipush 16, 2) := by decide +kernel
theorem d_Model_reproduce_68 : decode b_Model_reproduce 68 = .ok (.if_icmp .ge 40, 3) := by decide +kernel
theorem d_Model_reproduce_71 : decode b_Model_reproduce 71 = .ok (.iload 5, 2) := by decide +kernel
theorem d_Model_reproduce_73 : decode b_Model_reproduce 73 = .ok (.ifCond .ne 22, 3) := by decide +kernel
theorem d_Model_reproduce_76 : decode b_Model_reproduce 76 = .ok (.aload_n 0, 1) := by decide +kernel
theorem d_Model_reproduce_77 : decode b_Model_reproduce 77 = .ok (.iload_n 1, 1) := by decide +kernel
theorem d_Model_reproduce_78 : decode b_Model_reproduce 78 = .ok (.iload 6, 2) := by decide +kernel
theorem d_Model_reproduce_80 : decode b_Model_reproduce 80 = .ok (.aload_n 0, 1) := by decide +kernel
theorem d_Model_reproduce_81 : decode b_Model_reproduce 81 = .ok (.iload_n 2, 1) := by decide +kernel
theorem d_Model_reproduce_82 : decode b_Model_reproduce 82 = .ok (.iload 4, 2) := by decide +kernel
theorem d_Model_reproduce_84 : decode b_Model_reproduce 84 = .ok (.invokevirtual 98, 3) := by decide +kernel
theorem d_Model_reproduce_87 : decode b_Model_reproduce 87 = .ok (.invokevirtual 151, 3) := by decide +kernel
theorem d_Model_reproduce_90 : decode b_Model_reproduce 90 = .ok (.bipush (-2), 2) := by decide +kernel
theorem d_Model_reproduce_92 : decode b_Model_reproduce 92 = .ok (.if_icmp .ne 7, 3) := by decide +kernel
theorem d_Model_reproduce_95 : decode b_Model_reproduce 95 = .ok (.iconst 1, 1) := by decide +kernel
theorem d_Model_reproduce_96 : decode b_Model_reproduce 96 = .ok (.goto 4, 3) := by decide +kernel
theorem d_Model_reproduce_99 : decode b_Model_reproduce 99 = .ok (.iconst 0, 1) := by decide +kernel
theorem d_Model_reproduce_100 : decode b_Model_reproduce 100 = .ok (.istore 5, 2) := by decide +kernel
theorem d_Model_reproduce_102 : decode b_Model_reproduce 102 = .ok (.iinc 6 1, 3) := by decide +kernel
theorem d_Model_reproduce_105 : decode b_Model_reproduce 105 = .ok (.goto (-41), 3) := by decide +kernel
theorem d_Model_reproduce_108 : decode b_Model_reproduce 108 = .ok (.iload 5, 2) := by decide +kernel
theorem d_Model_reproduce_110 : decode b_Model_reproduce 110 = .ok (.ifCond .ne 13, 3) := by decide +kernel
theorem d_Model_reproduce_113 : decode b_Model_reproduce 113 = .ok (.aload_n 0, 1) := by decide +kernel
theorem d_Model_reproduce_114 : decode b_Model_reproduce 114 = .ok (.getfield 62, 3) := by decide +kernel
theorem d_Model_reproduce_117 : decode b_Model_reproduce 117 = .ok (.sipush 200, 3) := by decide +kernel
theorem d_Model_reproduce_120 : decode b_Model_reproduce 120 = .ok (.if_icmp .ne 20, 3) := by decide +kernel
theorem d_Model_reproduce_123 : decode b_Model_reproduce 123 = .ok (.aload_n 0, 1) := by decide +kernel
theorem d_Model_reproduce_124 : decode b_Model_reproduce 124 = .ok (.iload 5, 2) := by decide +kernel
theorem d_Model_reproduce_126 : decode b_Model_reproduce 126 = .ok (.ifCond .eq 7, 3) := by decide +kernel
theorem d_Model_reproduce_129 : decode b_Model_reproduce 129 = .ok (.iconst 2, 1) := by decide +kernel
theorem d_Model_reproduce_130 : decode b_Model_reproduce 130 = .ok (.goto 4, 3) := by decide +kernel
theorem d_Model_reproduce_133 : decode b_Model_reproduce 133 = .ok (.iconst 4, 1) := by decide +kernel
theorem d_Model_reproduce_134 : decode b_Model_reproduce 134 = .ok (.iload 4, 2) := by decide +kernel
theorem d_Model_reproduce_136 : decode b_Model_reproduce 136 = .ok (.invokevirtual 155, 3) := by decide +kernel
theorem d_Model_reproduce_139 : decode b_Model_reproduce 139 = .ok (.ireturn, 1) := by decide +kernel
theorem d_Model_reproduce_140 : decode b_Model_reproduce 140 = .ok (.aload_n 0, 1) := by decide +kernel
theorem d_Model_reproduce_141 : decode b_Model_reproduce 141 = .ok (.invokevirtual 74, 3) := by decide +kernel
theorem d_Model_reproduce_144 : decode b_Model_reproduce 144 = .ok (.istore 6, 2) := by decide +kernel
theorem d_Model_reproduce_146 : decode b_Model_reproduce 146 = .ok (.iconst 0, 1) := by decide +kernel
theorem d_Model_reproduce_147 : decode b_Model_reproduce 147 = .ok (.istore 7, 2) := by decide +kernel
theorem d_Model_reproduce_149 : decode b_Model_reproduce 149 = .ok (.iload 7, 2) := by decide +kernel
theorem d_Model_reproduce_151 : decode b_Model_reproduce 151 = .ok (.bipush 16, 2) := by decide +kernel
theorem d_Model_reproduce_153 : decode b_Model_reproduce 153 = .ok (.if_icmp .ge 51, 3) := by decide +kernel
theorem d_Model_reproduce_156 : decode b_Model_reproduce 156 = .ok (.aload_n 0, 1) := by decide +kernel
theorem d_Model_reproduce_157 : decode b_Model_reproduce 157 = .ok (.iload_n 1, 1) := by decide +kernel
theorem d_Model_reproduce_158 : decode b_Model_reproduce 158 = .ok (.iload 7, 2) := by decide +kernel
theorem d_Model_reproduce_160 : decode b_Model_reproduce 160 = .ok (.aload_n 0, 1) := by decide +kernel
theorem d_Model_reproduce_161 : decode b_Model_reproduce 161 = .ok (.iload_n 2, 1) := by decide +kernel
theorem d_Model_reproduce_162 : decode b_Model_reproduce 162 = .ok (.iload 4, 2) := by decide +kernel
theorem d_Model_reproduce_164 : decode b_Model_reproduce 164 = .ok (.invokevirtual 98, 3) := by decide +kernel
theorem d_Model_reproduce_167 : decode b_Model_reproduce 167 = .ok (.invokevirtual 151, 3) := by decide +kernel
theorem d_Model_reproduce_170 : decode b_Model_reproduce 170 = .ok (.istore 8, 2) := by decide +kernel
theorem d_Model_reproduce_172 : decode b_Model_reproduce 172 = .ok (.aload_n 0, 1) := by decide +kernel
theorem d_Model_reproduce_173 : decode b_Model_reproduce 173 = .ok (.getfield 7, 3) := by decide +kernel
theorem d_Model_reproduce_176 : decode b_Model_reproduce 176 = .ok (.bipush 16, 2) := by decide +kernel
theorem d_Model_reproduce_178 : decode b_Model_reproduce 178 = .ok (.iload 6, 2) := by decide +kernel
theorem d_Model_reproduce_180 : decode b_Model_reproduce 180 = .ok (.imul, 1) := by decide +kernel
theorem d_Model_reproduce_181 : decode b_Model_reproduce 181 = .ok (.iload 7, 2) := by decide +kernel
theorem d_Model_reproduce_183 : decode b_Model_reproduce 183 = .ok (.iadd, 1) := by decide +kernel
theorem d_Model_reproduce_184 : decode b_Model_reproduce 184 = .ok (.iload 8, 2) := by decide +kernel
theorem d_Model_reproduce_186 : decode b_Model_reproduce 186 = .ok (.ifCond .ge 8, 3) := by decide +kernel
theorem d_Model_reproduce_189 : decode b_Model_reproduce 189 = .ok (.bipush 32, 2) := by decide +kernel
theorem d_Model_reproduce_191 : decode b_Model_reproduce 191 = .ok (.goto 5, 3) := by decide +kernel
theorem d_Model_reproduce_194 : decode b_Model_reproduce 194 = .ok (.iload 8, 2) := by decide +kernel
theorem d_Model_reproduce_196 : decode b_Model_reproduce 196 = .ok (.i2b, 1) := by decide +kernel
theorem d_Model_reproduce_197 : decode b_Model_reproduce 197 = .ok (.bastore, 1) := by decide +kernel
theorem d_Model_reproduce_198 : decode b_Model_reproduce 198 = .ok (.iinc 7 1, 3) := by decide +kernel
theorem d_Model_reproduce_201 : decode b_Model_reproduce 201 = .ok (.goto (-52), 3) := by decide +kernel
theorem d_Model_reproduce_204 : decode b_Model_reproduce 204 = .ok (.aload_n 0, 1) := by decide +kernel
theorem d_Model_reproduce_205 : decode b_Model_reproduce 205 = .ok (.iload_n 3, 1) := by decide +kernel
theorem d_Model_reproduce_206 : decode b_Model_reproduce 206 = .ok (.iload 6, 2) := by decide +kernel
theorem d_Model_reproduce_208 : decode b_Model_reproduce 208 = .ok (.invokevirtual 78, 3) := by decide +kernel
theorem d_Model_reproduce_211 : decode b_Model_reproduce 211 = .ok (.iinc 4 1, 3) := by decide +kernel
theorem d_Model_reproduce_214 : decode b_Model_reproduce 214 = .ok (.goto (-167), 3) := by decide +kernel
theorem d_Model_reproduce_217 : decode b_Model_reproduce 217 = .ok (.aload_n 0, 1) := by decide +kernel
theorem d_Model_reproduce_218 : decode b_Model_reproduce 218 = .ok (.iconst 0, 1) := by decide +kernel
theorem d_Model_reproduce_219 : decode b_Model_reproduce 219 = .ok (.iconst (-1), 1) := by decide +kernel
theorem d_Model_reproduce_220 : decode b_Model_reproduce 220 = .ok (.invokevirtual 155, 3) := by decide +kernel
theorem d_Model_reproduce_223 : decode b_Model_reproduce 223 = .ok (.pop, 1) := by decide +kernel
theorem d_Model_reproduce_224 : decode b_Model_reproduce 224 = .ok (.aload_n 0, 1) := by decide +kernel
theorem d_Model_reproduce_225 : decode b_Model_reproduce 225 = .ok (.getfield 17, 3) := by decide +kernel
theorem d_Model_reproduce_228 : decode b_Model_reproduce 228 = .ok (.iload_n 2, 1) := by decide +kernel
theorem d_Model_reproduce_229 : decode b_Model_reproduce 229 = .ok (.iaload, 1) := by decide +kernel
theorem d_Model_reproduce_230 : decode b_Model_reproduce 230 = .ok (.ireturn, 1) := by decide +kernel
theorem d_Model_reproduce : decode b_Model_reproduce 0 = .ok (.aload_n 0, 1) ∧ decode b_Model_reproduce 1 = .ok (.iload_n 1, 1) ∧ decode b_Model_reproduce 2 = .ok (.invokestatic 82, 3) ∧ decode b_Model_reproduce 5 = .ok (.ifCond .eq 26, 3) ∧ decode b_Model_reproduce 8 = .ok (.iload_n 2, 1) ∧ decode b_Model_reproduce 9 = .ok (.invokestatic 65, 3) ∧ decode b_Model_reproduce 12 = .ok (.ifCond .eq 19, 3) ∧ decode b_Model_reproduce 15 = .ok (.iload_n 3, 1) ∧ decode b_Model_reproduce 16 = .ok (.invokestatic 65, 3) ∧ decode b_Model_reproduce 19 = .ok (.ifCond .eq 12, 3) ∧ decode b_Model_reproduce 22 = .ok (.iload_n 2, 1) ∧ decode b_Model_reproduce 23 = .ok (.iload_n 3, 1) ∧ decode b_Model_reproduce 24 = .ok (.if_icmp .eq 7, 3) ∧ decode b_Model_reproduce 27 = .ok (.iconst 0, 1) ∧ decode b_Model_reproduce 28 = .ok (.goto 4, 3) ∧ decode b_Model_reproduce 31 = .ok (.iconst 1, 1) ∧ decode b_Model_reproduce 32 = .ok (.putfield 52, 3) ∧ decode b_Model_reproduce 35 = .ok (.aload_n 0, 1) ∧ decode b_Model_reproduce 36 = .ok (.getfield 52, 3) ∧ decode b_Model_reproduce 39 = .ok (.ifCond .le 5, 3) ∧ decode b_Model_reproduce 42 = .ok (.iconst 0, 1) ∧ decode b_Model_reproduce 43 = .ok (.ireturn, 1) ∧ decode b_Model_reproduce 44 = .ok (.iconst 0, 1) ∧ decode b_Model_reproduce 45 = .ok (.istore 4, 2) ∧ decode b_Model_reproduce 47 = .ok (.iload 4, 2) ∧ decode b_Model_reproduce 49 = .ok (.aload_n 0, 1) ∧ decode b_Model_reproduce 50 = .ok (.getfield 17, 3) ∧ decode b_Model_reproduce 53 = .ok (.iload_n 2, 1) ∧ decode b_Model_reproduce 54 = .ok (.iaload, 1) ∧ decode b_Model_reproduce 55 = .ok (.if_icmp .ge 162, 3) ∧ decode b_Model_reproduce 58 = .ok (.iconst 0, 1) ∧ decode b_Model_reproduce 59 = .ok (.istore 5, 2) ∧ decode b_Model_reproduce 61 = .ok (.iconst 0, 1) ∧ decode b_Model_reproduce 62 = .ok (.istore 6, 2) ∧ decode b_Model_reproduce 64 = .ok (.iload 6, 2) ∧ decode b_Model_reproduce 66 = .ok (.bipush 16, 2) ∧ decode b_Model_reproduce 68 = .ok (.if_icmp .ge 40, 3) ∧ decode b_Model_reproduce 71 = .ok (.iload 5, 2) ∧ decode b_Model_reproduce 73 = .ok (.ifCond .ne 22, 3) ∧ decode b_Model_reproduce 76 = .ok (.aload_n 0, 1) ∧ decode b_Model_reproduce 77 = .ok (.iload_n 1, 1) ∧ decode b_Model_reproduce 78 = .ok (.iload 6, 2) ∧ decode b_Model_reproduce 80 = .ok (.aload_n 0, 1) ∧ decode b_Model_reproduce 81 = .ok (.iload_n 2, 1) ∧ decode b_Model_reproduce 82 = .ok (.iload 4, 2) ∧ decode b_Model_reproduce 84 = .ok (.invokevirtual 98, 3) ∧ decode b_Model_reproduce 87 = .ok (.invokevirtual 151, 3) ∧ decode b_Model_reproduce 90 = .ok (.bipush (-2), 2) ∧ decode b_Model_reproduce 92 = .ok (.if_icmp .ne 7, 3) ∧ decode b_Model_reproduce 95 = .ok (.iconst 1, 1) ∧ decode b_Model_reproduce 96 = .ok (.goto 4, 3) ∧ decode b_Model_reproduce 99 = .ok (.iconst 0, 1) ∧ decode b_Model_reproduce 100 = .ok (.istore 5, 2) ∧ decode b_Model_reproduce 102 = .ok (.iinc 6 1, 3) ∧ decode b_Model_reproduce 105 = .ok (.goto (-41), 3) ∧ decode b_Model_reproduce 108 = .ok (.iload 5, 2) ∧ decode b_Model_reproduce 110 = .ok (.ifCond .ne 13, 3) ∧ decode b_Model_reproduce 113 = .ok (.aload_n 0, 1) ∧ decode b_Model_reproduce 114 = .ok (.getfield 62, 3) ∧ decode b_Model_reproduce 117 = .ok (.sipush 200, 3) ∧ decode b_Model_reproduce 120 = .ok (.if_icmp .ne 20, 3) ∧ decode b_Model_reproduce 123 = .ok (.aload_n 0, 1) ∧ decode b_Model_reproduce 124 = .ok (.iload 5, 2) ∧ decode b_Model_reproduce 126 = .ok (.ifCond .eq 7, 3) ∧ decode b_Model_reproduce 129 = .ok (.iconst 2, 1) ∧ decode b_Model_reproduce 130 = .ok (.goto 4, 3) ∧ decode b_Model_reproduce 133 = .ok (.iconst 4, 1) ∧ decode b_Model_reproduce 134 = .ok (.iload 4, 2) ∧ decode b_Model_reproduce 136 = .ok (.invokevirtual 155, 3) ∧ decode b_Model_reproduce 139 = .ok (.ireturn, 1) ∧ decode b_Model_reproduce 140 = .ok (.aload_n 0, 1) ∧ decode b_Model_reproduce 141 = .ok (.invokevirtual 74, 3) ∧ decode b_Model_reproduce 144 = .ok (.istore 6, 2) ∧ decode b_Model_reproduce 146 = .ok (.iconst 0, 1) ∧ decode b_Model_reproduce 147 = .ok (.istore 7, 2) ∧ decode b_Model_reproduce 149 = .ok (.iload 7, 2) ∧ decode b_Model_reproduce 151 = .ok (.bipush 16, 2) ∧ decode b_Model_reproduce 153 = .ok (.if_icmp .ge 51, 3) ∧ decode b_Model_reproduce 156 = .ok (.aload_n 0, 1) ∧ decode b_Model_reproduce 157 = .ok (.iload_n 1, 1) ∧ decode b_Model_reproduce 158 = .ok (.iload 7, 2) ∧ decode b_Model_reproduce 160 = .ok (.aload_n 0, 1) ∧ decode b_Model_reproduce 161 = .ok (.iload_n 2, 1) ∧ decode b_Model_reproduce 162 = .ok (.iload 4, 2) ∧ decode b_Model_reproduce 164 = .ok (.invokevirtual 98, 3) ∧ decode b_Model_reproduce 167 = .ok (.invokevirtual 151, 3) ∧ decode b_Model_reproduce 170 = .ok (.istore 8, 2) ∧ decode b_Model_reproduce 172 = .ok (.aload_n 0, 1) ∧ decode b_Model_reproduce 173 = .ok (.getfield 7, 3) ∧ decode b_Model_reproduce 176 = .ok (.bipush 16, 2) ∧ decode b_Model_reproduce 178 = .ok (.iload 6, 2) ∧ decode b_Model_reproduce 180 = .ok (.imul, 1) ∧ decode b_Model_reproduce 181 = .ok (.iload 7, 2) ∧ decode b_Model_reproduce 183 = .ok (.iadd, 1) ∧ decode b_Model_reproduce 184 = .ok (.iload 8, 2) ∧ decode b_Model_reproduce 186 = .ok (.ifCond .ge 8, 3) ∧ decode b_Model_reproduce 189 = .ok (.bipush 32, 2) ∧ decode b_Model_reproduce 191 = .ok (.goto 5, 3) ∧ decode b_Model_reproduce 194 = .ok (.iload 8, 2) ∧ decode b_Model_reproduce 196 = .ok (.i2b, 1) ∧ decode b_Model_reproduce 197 = .ok (.bastore, 1) ∧ decode b_Model_reproduce 198 = .ok (.iinc 7 1, 3) ∧ decode b_Model_reproduce 201 = .ok (.goto (-52), 3) ∧ decode b_Model_reproduce 204 = .ok (.aload_n 0, 1) ∧ decode b_Model_reproduce 205 = .ok (.iload_n 3, 1) ∧ decode b_Model_reproduce 206 = .ok (.iload 6, 2) ∧ decode b_Model_reproduce 208 = .ok (.invokevirtual 78, 3) ∧ decode b_Model_reproduce 211 = .ok (.iinc 4 1, 3) ∧ decode b_Model_reproduce 214 = .ok (.goto (-167), 3) ∧ decode b_Model_reproduce 217 = .ok (.aload_n 0, 1) ∧ decode b_Model_reproduce 218 = .ok (.iconst 0, 1) ∧ decode b_Model_reproduce 219 = .ok (.iconst (-1), 1) ∧ decode b_Model_reproduce 220 = .ok (.invokevirtual 155, 3) ∧ decode b_Model_reproduce 223 = .ok (.pop, 1) ∧ decode b_Model_reproduce 224 = .ok (.aload_n 0, 1) ∧ decode b_Model_reproduce 225 = .ok (.getfield 17, 3) ∧ decode b_Model_reproduce 228 = .ok (.iload_n 2, 1) ∧ decode b_Model_reproduce 229 = .ok (.iaload, 1) ∧ decode b_Model_reproduce 230 = .ok (.ireturn, 1) := ⟨d_Model_reproduce_0, d_Model_reproduce_1, d_Model_reproduce_2, d_Model_reproduce_5, d_Model_reproduce_8, d_Model_reproduce_9, d_Model_reproduce_12, d_Model_reproduce_15, d_Model_reproduce_16, d_Model_reproduce_19, d_Model_reproduce_22, d_Model_reproduce_23, d_Model_reproduce_24, d_Model_reproduce_27, d_Model_reproduce_28, d_Model_reproduce_31, d_Model_reproduce_32, d_Model_reproduce_35, d_Model_reproduce_36, d_Model_reproduce_39, d_Model_reproduce_42, d_Model_reproduce_43, d_Model_reproduce_44, d_Model_reproduce_45, d_Model_reproduce_47, d_Model_reproduce_49, d_Model_reproduce_50, d_Model_reproduce_53, d_Model_reproduce_54, d_Model_reproduce_55, d_Model_reproduce_58, d_Model_reproduce_59, d_Model_reproduce_61, d_Model_reproduce_62, d_Model_reproduce_64, d_Model_reproduce_66, d_Model_reproduce_68, d_Model_reproduce_71, d_Model_reproduce_73, d_Model_reproduce_76, d_Model_reproduce_77, d_Model_reproduce_78, d_Model_reproduce_80, d_Model_reproduce_81, d_Model_reproduce_82, d_Model_reproduce_84, d_Model_reproduce_87, d_Model_reproduce_90, d_Model_reproduce_92, d_Model_reproduce_95, d_Model_reproduce_96, d_Model_reproduce_99, d_Model_reproduce_100, d_Model_reproduce_102, d_Model_reproduce_105, d_Model_reproduce_108, d_Model_reproduce_110, d_Model_reproduce_113, d_Model_reproduce_114, d_Model_reproduce_117, d_Model_reproduce_120, d_Model_reproduce_123, d_Model_reproduce_124, d_Model_reproduce_126, d_Model_reproduce_129, d_Model_reproduce_130, d_Model_reproduce_133, d_Model_reproduce_134, d_Model_reproduce_136, d_Model_reproduce_139, d_Model_reproduce_140, d_Model_reproduce_141, d_Model_reproduce_144, d_Model_reproduce_146, d_Model_reproduce_147, d_Model_reproduce_149, d_Model_reproduce_151, d_Model_reproduce_153, d_Model_reproduce_156, d_Model_reproduce_157, d_Model_reproduce_158, d_Model_reproduce_160, d_Model_reproduce_161, d_Model_reproduce_162, d_Model_reproduce_164, d_Model_reproduce_167, d_Model_reproduce_170, d_Model_reproduce_172, d_Model_reproduce_173, d_Model_reproduce_176, d_Model_reproduce_178, d_Model_reproduce_180, d_Model_reproduce_181, d_Model_reproduce_183, d_Model_reproduce_184, d_Model_reproduce_186, d_Model_reproduce_189, d_Model_reproduce_191, d_Model_reproduce_194, d_Model_reproduce_196, d_Model_reproduce_197, d_Model_reproduce_198, d_Model_reproduce_201, d_Model_reproduce_204, d_Model_reproduce_205, d_Model_reproduce_206, d_Model_reproduce_208, d_Model_reproduce_211, d_Model_reproduce_214, d_Model_reproduce_217, d_Model_reproduce_218, d_Model_reproduce_219, d_Model_reproduce_220, d_Model_reproduce_223, d_Model_reproduce_224, d_Model_reproduce_225, d_Model_reproduce_228, d_Model_reproduce_229, d_Model_reproduce_230⟩
theorem v_Model_reproduce : Cond.instanceMethod y_Model_reproduce ∈ nm_Ts ∧ Cond.selects y_Model_reproduce.cls y_Model_reproduce y_Model_reproduce ∈ nm_Ts ∧ Cond.initialized y_Model_reproduce.cls ∈ nm_Ts ∧ Cond.code y_Model_reproduce b_Model_reproduce 9 (some .int) ∈ nm_Ts ∧ mz_cl1 y_Model_reproduce 3 := ⟨nm_t5 14 rfl rfl, nm_t5 15 rfl rfl, nm_t1 12 rfl rfl, nm_t5 16 rfl rfl, by decide +kernel⟩
def y_Model_arrives : MethodName := ⟨"CardOfficeModel", "arrives", "(III)I"⟩
abbrev b_Model_arrives : ByteArray := prog_14_method_22_code
def r_Model_arrives (c s : Nat) : Room := { frames := 2, cells := c, slots := s, locals := 45 }
theorem d_Model_arrives_0 : decode b_Model_arrives 0 = .ok (.iconst (-1), 1) := by decide +kernel
theorem d_Model_arrives_1 : decode b_Model_arrives 1 = .ok (.istore 4, 2) := by decide +kernel
theorem d_Model_arrives_3 : decode b_Model_arrives 3 = .ok (.bipush 40, 2) := by decide +kernel
theorem d_Model_arrives_5 : decode b_Model_arrives 5 = .ok (.iload_n 1, 1) := by decide +kernel
theorem d_Model_arrives_6 : decode b_Model_arrives 6 = .ok (.imul, 1) := by decide +kernel
theorem d_Model_arrives_7 : decode b_Model_arrives 7 = .ok (.istore 5, 2) := by decide +kernel
theorem d_Model_arrives_9 : decode b_Model_arrives 9 = .ok (.iload 5, 2) := by decide +kernel
theorem d_Model_arrives_11 : decode b_Model_arrives 11 = .ok (.bipush 40, 2) := by decide +kernel
theorem d_Model_arrives_13 : decode b_Model_arrives 13 = .ok (.iload_n 1, 1) := by decide +kernel
theorem d_Model_arrives_14 : decode b_Model_arrives 14 = .ok (.imul, 1) := by decide +kernel
theorem d_Model_arrives_15 : decode b_Model_arrives 15 = .ok (.aload_n 0, 1) := by decide +kernel
theorem d_Model_arrives_16 : decode b_Model_arrives 16 = .ok (.getfield 33, 3) := by decide +kernel
theorem d_Model_arrives_19 : decode b_Model_arrives 19 = .ok (.iload_n 1, 1) := by decide +kernel
theorem d_Model_arrives_20 : decode b_Model_arrives 20 = .ok (.iaload, 1) := by decide +kernel
theorem d_Model_arrives_21 : decode b_Model_arrives 21 = .ok (.iadd, 1) := by decide +kernel
theorem d_Model_arrives_22 : decode b_Model_arrives 22 = .ok (.if_icmp .ge 65, 3) := by decide +kernel
theorem d_Model_arrives_25 : decode b_Model_arrives 25 = .ok (.aload_n 0, 1) := by decide +kernel
theorem d_Model_arrives_26 : decode b_Model_arrives 26 = .ok (.getfield 30, 3) := by decide +kernel
theorem d_Model_arrives_29 : decode b_Model_arrives 29 = .ok (.iload 5, 2) := by decide +kernel
theorem d_Model_arrives_31 : decode b_Model_arrives 31 = .ok (.baload, 1) := by decide +kernel
theorem d_Model_arrives_32 : decode b_Model_arrives 32 = .ok (.iload_n 2, 1) := by decide +kernel
theorem d_Model_arrives_33 : decode b_Model_arrives 33 = .ok (.if_icmp .ne 13, 3) := by decide +kernel
theorem d_Model_arrives_36 : decode b_Model_arrives 36 = .ok (.aload_n 0, 1) := by decide +kernel
theorem d_Model_arrives_37 : decode b_Model_arrives 37 = .ok (.iload 5, 2) := by decide +kernel
theorem d_Model_arrives_39 : decode b_Model_arrives 39 = .ok (.iload_n 3, 1) := by decide +kernel
theorem d_Model_arrives_40 : decode b_Model_arrives 40 = .ok (.invokevirtual 95, 3) := by decide +kernel
theorem d_Model_arrives_43 : decode b_Model_arrives 43 = .ok (.goto 4, 3) := by decide +kernel
theorem d_Model_arrives_46 : decode b_Model_arrives 46 = .ok (.iconst (-1), 1) := by decide +kernel
theorem d_Model_arrives_47 : decode b_Model_arrives 47 = .ok (.istore 6, 2) := by decide +kernel
theorem d_Model_arrives_49 : decode b_Model_arrives 49 = .ok (.iload 6, 2) := by decide +kernel
theorem d_Model_arrives_51 : decode b_Model_arrives 51 = .ok (.ifCond .lt 10, 3) := by decide +kernel
theorem d_Model_arrives_54 : decode b_Model_arrives 54 = .ok (.iload 6, 2) := by decide +kernel
theorem d_Model_arrives_56 : decode b_Model_arrives 56 = .ok (.iload 4, 2) := by decide +kernel
theorem d_Model_arrives_58 : decode b_Model_arrives 58 = .ok (.if_icmp .ne 8, 3) := by decide +kernel
theorem d_Model_arrives_61 : decode b_Model_arrives 61 = .ok (.iload 4, 2) := by decide +kernel
theorem d_Model_arrives_63 : decode b_Model_arrives 63 = .ok (.goto 16, 3) := by decide +kernel
theorem d_Model_arrives_66 : decode b_Model_arrives 66 = .ok (.iload 4, 2) := by decide +kernel
theorem d_Model_arrives_68 : decode b_Model_arrives 68 = .ok (.iconst (-1), 1) := by decide +kernel
theorem d_Model_arrives_69 : decode b_Model_arrives 69 = .ok (.if_icmp .ne 8, 3) := by decide +kernel
theorem d_Model_arrives_72 : decode b_Model_arrives 72 = .ok (.iload 6, 2) := by decide +kernel
theorem d_Model_arrives_74 : decode b_Model_arrives 74 = .ok (.goto 5, 3) := by decide +kernel
theorem d_Model_arrives_77 : decode b_Model_arrives 77 = .ok (.bipush (-2), 2) := by decide +kernel
theorem d_Model_arrives_79 : decode b_Model_arrives 79 = .ok (.istore 4, 2) := by decide +kernel
theorem d_Model_arrives_81 : decode b_Model_arrives 81 = .ok (.iinc 5 1, 3) := by decide +kernel
theorem d_Model_arrives_84 : decode b_Model_arrives 84 = .ok (.goto (-75), 3) := by decide +kernel
theorem d_Model_arrives_87 : decode b_Model_arrives 87 = .ok (.iload 4, 2) := by decide +kernel
theorem d_Model_arrives_89 : decode b_Model_arrives 89 = .ok (.ireturn, 1) := by decide +kernel
theorem v_Model_arrives : Cond.instanceMethod y_Model_arrives ∈ nm_Ts ∧ Cond.selects y_Model_arrives.cls y_Model_arrives y_Model_arrives ∈ nm_Ts ∧ Cond.initialized y_Model_arrives.cls ∈ nm_Ts ∧ Cond.code y_Model_arrives b_Model_arrives 7 (some .int) ∈ nm_Ts ∧ mz_cl1 y_Model_arrives 3 := ⟨nm_t5 19 rfl rfl, nm_s 31 rfl rfl, nm_t1 12 rfl rfl, nm_t5 20 rfl rfl, by decide +kernel⟩
def y_Model_brings : MethodName := ⟨"CardOfficeModel", "brings", "(II)I"⟩
abbrev b_Model_brings : ByteArray := prog_14_method_21_code
def r_Model_brings (c s : Nat) : Room := { frames := 1, cells := c, slots := s, locals := 22 }
theorem d_Model_brings_0 : decode b_Model_brings 0 = .ok (.aload_n 0, 1) := by decide +kernel
theorem d_Model_brings_1 : decode b_Model_brings 1 = .ok (.getfield 27, 3) := by decide +kernel
theorem d_Model_brings_4 : decode b_Model_brings 4 = .ok (.iload_n 1, 1) := by decide +kernel
theorem d_Model_brings_5 : decode b_Model_brings 5 = .ok (.baload, 1) := by decide +kernel
theorem d_Model_brings_6 : decode b_Model_brings 6 = .ok (.istore_n 3, 1) := by decide +kernel
theorem d_Model_brings_7 : decode b_Model_brings 7 = .ok (.iload_n 3, 1) := by decide +kernel
theorem d_Model_brings_8 : decode b_Model_brings 8 = .ok (.bipush 16, 2) := by decide +kernel
theorem d_Model_brings_10 : decode b_Model_brings 10 = .ok (.if_icmp .ge 20, 3) := by decide +kernel
theorem d_Model_brings_13 : decode b_Model_brings 13 = .ok (.iload_n 2, 1) := by decide +kernel
theorem d_Model_brings_14 : decode b_Model_brings 14 = .ok (.ifCond .ge 7, 3) := by decide +kernel
theorem d_Model_brings_17 : decode b_Model_brings 17 = .ok (.iconst (-1), 1) := by decide +kernel
theorem d_Model_brings_18 : decode b_Model_brings 18 = .ok (.goto 26, 3) := by decide +kernel
theorem d_Model_brings_21 : decode b_Model_brings 21 = .ok (.aload_n 0, 1) := by decide +kernel
theorem d_Model_brings_22 : decode b_Model_brings 22 = .ok (.iload_n 2, 1) := by decide +kernel
theorem d_Model_brings_23 : decode b_Model_brings 23 = .ok (.iload_n 3, 1) := by decide +kernel
theorem d_Model_brings_24 : decode b_Model_brings 24 = .ok (.invokevirtual 91, 3) := by decide +kernel
theorem d_Model_brings_27 : decode b_Model_brings 27 = .ok (.goto 17, 3) := by decide +kernel
theorem d_Model_brings_30 : decode b_Model_brings 30 = .ok (.iload_n 3, 1) := by decide +kernel
theorem d_Model_brings_31 : decode b_Model_brings 31 = .ok (.bipush 26, 2) := by decide +kernel
theorem d_Model_brings_33 : decode b_Model_brings 33 = .ok (.if_icmp .ge 10, 3) := by decide +kernel
theorem d_Model_brings_36 : decode b_Model_brings 36 = .ok (.bipush 32, 2) := by decide +kernel
theorem d_Model_brings_38 : decode b_Model_brings 38 = .ok (.iload_n 3, 1) := by decide +kernel
theorem d_Model_brings_39 : decode b_Model_brings 39 = .ok (.iadd, 1) := by decide +kernel
theorem d_Model_brings_40 : decode b_Model_brings 40 = .ok (.goto 4, 3) := by decide +kernel
theorem d_Model_brings_43 : decode b_Model_brings 43 = .ok (.iconst (-1), 1) := by decide +kernel
theorem d_Model_brings_44 : decode b_Model_brings 44 = .ok (.ireturn, 1) := by decide +kernel
theorem v_Model_brings : Cond.instanceMethod y_Model_brings ∈ nm_Ts ∧ Cond.selects y_Model_brings.cls y_Model_brings y_Model_brings ∈ nm_Ts ∧ Cond.initialized y_Model_brings.cls ∈ nm_Ts ∧ Cond.code y_Model_brings b_Model_brings 4 (some .int) ∈ nm_Ts ∧ mz_cl1 y_Model_brings 2 := ⟨nm_t5 23 rfl rfl, nm_s 32 rfl rfl, nm_t1 12 rfl rfl, nm_t5 24 rfl rfl, by decide +kernel⟩
def y_Model_fails : MethodName := ⟨"CardOfficeModel", "fails", "(II)I"⟩
abbrev b_Model_fails : ByteArray := prog_14_method_35_code
def r_Model_fails (c s : Nat) : Room := { frames := 0, cells := c, slots := s, locals := 0 }
theorem d_Model_fails_0 : decode b_Model_fails 0 = .ok (.aload_n 0, 1) := by decide +kernel
theorem d_Model_fails_1 : decode b_Model_fails 1 = .ok (.iload_n 1, 1) := by decide +kernel
theorem d_Model_fails_2 : decode b_Model_fails 2 = .ok (.putfield 148, 3) := by decide +kernel
theorem d_Model_fails_5 : decode b_Model_fails 5 = .ok (.aload_n 0, 1) := by decide +kernel
theorem d_Model_fails_6 : decode b_Model_fails 6 = .ok (.iload_n 2, 1) := by decide +kernel
theorem d_Model_fails_7 : decode b_Model_fails 7 = .ok (.putfield 48, 3) := by decide +kernel
theorem d_Model_fails_10 : decode b_Model_fails 10 = .ok (.iload_n 2, 1) := by decide +kernel
theorem d_Model_fails_11 : decode b_Model_fails 11 = .ok (.ireturn, 1) := by decide +kernel
theorem v_Model_fails : Cond.instanceMethod y_Model_fails ∈ nm_Ts ∧ Cond.selects y_Model_fails.cls y_Model_fails y_Model_fails ∈ nm_Ts ∧ Cond.initialized y_Model_fails.cls ∈ nm_Ts ∧ Cond.code y_Model_fails b_Model_fails 3 (some .int) ∈ nm_Ts ∧ mz_cl1 y_Model_fails 2 := ⟨nm_t5 27 rfl rfl, nm_s 33 rfl rfl, nm_t1 12 rfl rfl, nm_t5 28 rfl rfl, by decide +kernel⟩
def y_Model_gang : MethodName := ⟨"CardOfficeModel", "gang", "(III)I"⟩
abbrev b_Model_gang : ByteArray := prog_14_method_37_code
def r_Model_gang (c s : Nat) : Room := { frames := 4, cells := c, slots := s, locals := 99 }
theorem d_Model_gang_0 : decode b_Model_gang 0 = .ok (.aload_n 0, 1) := by decide +kernel
theorem d_Model_gang_1 : decode b_Model_gang 1 = .ok (.iload_n 1, 1) := by decide +kernel
theorem d_Model_gang_2 : decode b_Model_gang 2 = .ok (.invokestatic 82, 3) := by decide +kernel
theorem d_Model_gang_5 : decode b_Model_gang 5 = .ok (.ifCond .eq 21, 3) := by decide +kernel
theorem d_Model_gang_8 : decode b_Model_gang 8 = .ok (.iload_n 2, 1) := by decide +kernel
theorem d_Model_gang_9 : decode b_Model_gang 9 = .ok (.invokestatic 65, 3) := by decide +kernel
theorem d_Model_gang_12 : decode b_Model_gang 12 = .ok (.ifCond .eq 14, 3) := by decide +kernel
theorem d_Model_gang_15 : decode b_Model_gang 15 = .ok (.iload_n 3, 1) := by decide +kernel
theorem d_Model_gang_16 : decode b_Model_gang 16 = .ok (.invokestatic 108, 3) := by decide +kernel
theorem d_Model_gang_19 : decode b_Model_gang 19 = .ok (.ifCond .eq 7, 3) := by decide +kernel
theorem d_Model_gang_22 : decode b_Model_gang 22 = .ok (.iconst 0, 1) := by decide +kernel
theorem d_Model_gang_23 : decode b_Model_gang 23 = .ok (.goto 4, 3) := by decide +kernel
theorem d_Model_gang_26 : decode b_Model_gang 26 = .ok (.iconst 1, 1) := by decide +kernel
theorem d_Model_gang_27 : decode b_Model_gang 27 = .ok (.putfield 52, 3) := by decide +kernel
theorem d_Model_gang_30 : decode b_Model_gang 30 = .ok (.aload_n 0, 1) := by decide +kernel
theorem d_Model_gang_31 : decode b_Model_gang 31 = .ok (.getfield 52, 3) := by decide +kernel
theorem d_Model_gang_34 : decode b_Model_gang 34 = .ok (.ifCond .le 5, 3) := by decide +kernel
theorem d_Model_gang_37 : decode b_Model_gang 37 = .ok (.iconst 0, 1) := by decide +kernel
theorem d_Model_gang_38 : decode b_Model_gang 38 = .ok (.ireturn, 1) := by decide +kernel
theorem d_Model_gang_39 : decode b_Model_gang 39 = .ok (.iconst (-1), 1) := by decide +kernel
theorem d_Model_gang_40 : decode b_Model_gang 40 = .ok (.istore 4, 2) := by decide +kernel
theorem d_Model_gang_42 : decode b_Model_gang 42 = .ok (.iconst 0, 1) := by decide +kernel
theorem d_Model_gang_43 : decode b_Model_gang 43 = .ok (.istore 5, 2) := by decide +kernel
theorem d_Model_gang_45 : decode b_Model_gang 45 = .ok (.iload 5, 2) := by decide +kernel
theorem d_Model_gang_47 : decode b_Model_gang 47 = .ok (.aload_n 0, 1) := by decide +kernel
theorem d_Model_gang_48 : decode b_Model_gang 48 = .ok (.getfield 17, 3) := by decide +kernel
theorem d_Model_gang_51 : decode b_Model_gang 51 = .ok (.iload_n 2, 1) := by decide +kernel
theorem d_Model_gang_52 : decode b_Model_gang 52 = .ok (.iaload, 1) := by decide +kernel
theorem d_Model_gang_53 : decode b_Model_gang 53 = .ok (.if_icmp .ge 133, 3) := by decide +kernel
theorem d_Model_gang_56 : decode b_Model_gang 56 = .ok (.aload_n 0, 1) := by decide +kernel
theorem d_Model_gang_57 : decode b_Model_gang 57 = .ok (.iload_n 2, 1) := by decide +kernel
theorem d_Model_gang_58 : decode b_Model_gang 58 = .ok (.iload 5, 2) := by decide +kernel
theorem d_Model_gang_60 : decode b_Model_gang 60 = .ok (.invokevirtual 98, 3) := by decide +kernel
theorem d_Model_gang_63 : decode b_Model_gang 63 = .ok (.istore 6, 2) := by decide +kernel
theorem d_Model_gang_65 : decode b_Model_gang 65 = .ok (.aload_n 0, 1) := by decide +kernel
theorem d_Model_gang_66 : decode b_Model_gang 66 = .ok (.iload 6, 2) := by decide +kernel
theorem d_Model_gang_68 : decode b_Model_gang 68 = .ok (.iload_n 3, 1) := by decide +kernel
theorem d_Model_gang_69 : decode b_Model_gang 69 = .ok (.invokevirtual 91, 3) := by decide +kernel
theorem d_Model_gang_72 : decode b_Model_gang 72 = .ok (.invokestatic 55, 3) := by decide +kernel
theorem d_Model_gang_75 : decode b_Model_gang 75 = .ok (.iconst 2, 1) := by decide +kernel
theorem d_Model_gang_76 : decode b_Model_gang 76 = .ok (.if_icmp .ne 10, 3) := by decide +kernel
theorem d_Model_gang_79 : decode b_Model_gang 79 = .ok (.iload 6, 2) := by decide +kernel
theorem d_Model_gang_81 : decode b_Model_gang 81 = .ok (.istore 4, 2) := by decide +kernel
theorem d_Model_gang_83 : decode b_Model_gang 83 = .ok (.goto 97, 3) := by decide +kernel
theorem d_Model_gang_86 : decode b_Model_gang 86 = .ok (.iload 4, 2) := by decide +kernel
theorem d_Model_gang_88 : decode b_Model_gang 88 = .ok (.ifCond .lt 92, 3) := by decide +kernel
theorem d_Model_gang_91 : decode b_Model_gang 91 = .ok (.aload_n 0, 1) := by decide +kernel
theorem d_Model_gang_92 : decode b_Model_gang 92 = .ok (.iload_n 1, 1) := by decide +kernel
theorem d_Model_gang_93 : decode b_Model_gang 93 = .ok (.iload 4, 2) := by decide +kernel
theorem d_Model_gang_95 : decode b_Model_gang 95 = .ok (.iload 6, 2) := by decide +kernel
theorem d_Model_gang_97 : decode b_Model_gang 97 = .ok (.invokevirtual 158, 3) := by decide +kernel
theorem d_Model_gang_100 : decode b_Model_gang 100 = .ok (.istore 7, 2) := by decide +kernel
theorem d_Model_gang_102 : decode b_Model_gang 102 = .ok (.iload 7, 2) := by decide +kernel
theorem d_Model_gang_104 : decode b_Model_gang 104 = .ok (.ifCond .le 12, 3) := by decide +kernel
theorem d_Model_gang_107 : decode b_Model_gang 107 = .ok (.aload_n 0, 1) := by decide +kernel
theorem d_Model_gang_108 : decode b_Model_gang 108 = .ok (.iload 7, 2) := by decide +kernel
theorem d_Model_gang_110 : decode b_Model_gang 110 = .ok (.iload 5, 2) := by decide +kernel
theorem d_Model_gang_112 : decode b_Model_gang 112 = .ok (.invokevirtual 155, 3) := by decide +kernel
theorem d_Model_gang_115 : decode b_Model_gang 115 = .ok (.ireturn, 1) := by decide +kernel
theorem d_Model_gang_116 : decode b_Model_gang 116 = .ok (.iconst 0, 1) := by decide +kernel
theorem d_Model_gang_117 : decode b_Model_gang 117 = .ok (.istore 8, 2) := by decide +kernel
theorem d_Model_gang_119 : decode b_Model_gang 119 = .ok (.iload 8, 2) := by decide +kernel
theorem d_Model_gang_121 : decode b_Model_gang 121 = .ok (.bipush 16, 2) := by decide +kernel
theorem d_Model_gang_123 : decode b_Model_gang 123 = .ok (.if_icmp .ge 57, 3) := by decide +kernel
theorem d_Model_gang_126 : decode b_Model_gang 126 = .ok (.aload_n 0, 1) := by decide +kernel
theorem d_Model_gang_127 : decode b_Model_gang 127 = .ok (.iload_n 1, 1) := by decide +kernel
theorem d_Model_gang_128 : decode b_Model_gang 128 = .ok (.iload 8, 2) := by decide +kernel
theorem d_Model_gang_130 : decode b_Model_gang 130 = .ok (.iload 4, 2) := by decide +kernel
theorem d_Model_gang_132 : decode b_Model_gang 132 = .ok (.invokevirtual 151, 3) := by decide +kernel
theorem d_Model_gang_135 : decode b_Model_gang 135 = .ok (.istore 9, 2) := by decide +kernel
theorem d_Model_gang_137 : decode b_Model_gang 137 = .ok (.aload_n 0, 1) := by decide +kernel
theorem d_Model_gang_138 : decode b_Model_gang 138 = .ok (.getfield 7, 3) := by decide +kernel
theorem d_Model_gang_141 : decode b_Model_gang 141 = .ok (.bipush 16, 2) := by decide +kernel
theorem d_Model_gang_143 : decode b_Model_gang 143 = .ok (.iload 6, 2) := by decide +kernel
theorem d_Model_gang_145 : decode b_Model_gang 145 = .ok (.imul, 1) := by decide +kernel
theorem d_Model_gang_146 : decode b_Model_gang 146 = .ok (.iload 8, 2) := by decide +kernel
theorem d_Model_gang_148 : decode b_Model_gang 148 = .ok (.iadd, 1) := by decide +kernel
theorem d_Model_gang_149 : decode b_Model_gang 149 = .ok (.iload 9, 2) := by decide +kernel
theorem d_Model_gang_151 : decode b_Model_gang 151 = .ok (.ifCond .ge 19, 3) := by decide +kernel
theorem d_Model_gang_154 : decode b_Model_gang 154 = .ok (.aload_n 0, 1) := by decide +kernel
theorem d_Model_gang_155 : decode b_Model_gang 155 = .ok (.getfield 7, 3) := by decide +kernel
theorem d_Model_gang_158 : decode b_Model_gang 158 = .ok (.bipush 16, 2) := by decide +kernel
theorem d_Model_gang_160 : decode b_Model_gang 160 = .ok (.iload 6, 2) := by decide +kernel
theorem d_Model_gang_162 : decode b_Model_gang 162 = .ok (.imul, 1) := by decide +kernel
theorem d_Model_gang_163 : decode b_Model_gang 163 = .ok (.iload 8, 2) := by decide +kernel
theorem d_Model_gang_165 : decode b_Model_gang 165 = .ok (.iadd, 1) := by decide +kernel
theorem d_Model_gang_166 : decode b_Model_gang 166 = .ok (.baload, 1) := by decide +kernel
theorem d_Model_gang_167 : decode b_Model_gang 167 = .ok (.goto 6, 3) := by decide +kernel
theorem d_Model_gang_170 : decode b_Model_gang 170 = .ok (.iload 9, 2) := by decide +kernel
theorem d_Model_gang_172 : decode b_Model_gang 172 = .ok (.i2b, 1) := by decide +kernel
theorem d_Model_gang_173 : decode b_Model_gang 173 = .ok (.bastore, 1) := by decide +kernel
theorem d_Model_gang_174 : decode b_Model_gang 174 = .ok (.iinc 8 1, 3) := by decide +kernel
theorem d_Model_gang_177 : decode b_Model_gang 177 = .ok (.goto (-58), 3) := by decide +kernel
theorem d_Model_gang_180 : decode b_Model_gang 180 = .ok (.iinc 5 1, 3) := by decide +kernel
theorem d_Model_gang_183 : decode b_Model_gang 183 = .ok (.goto (-138), 3) := by decide +kernel
theorem d_Model_gang_186 : decode b_Model_gang 186 = .ok (.aload_n 0, 1) := by decide +kernel
theorem d_Model_gang_187 : decode b_Model_gang 187 = .ok (.iconst 0, 1) := by decide +kernel
theorem d_Model_gang_188 : decode b_Model_gang 188 = .ok (.iconst (-1), 1) := by decide +kernel
theorem d_Model_gang_189 : decode b_Model_gang 189 = .ok (.invokevirtual 155, 3) := by decide +kernel
theorem d_Model_gang_192 : decode b_Model_gang 192 = .ok (.pop, 1) := by decide +kernel
theorem d_Model_gang_193 : decode b_Model_gang 193 = .ok (.aload_n 0, 1) := by decide +kernel
theorem d_Model_gang_194 : decode b_Model_gang 194 = .ok (.getfield 17, 3) := by decide +kernel
theorem d_Model_gang_197 : decode b_Model_gang 197 = .ok (.iload_n 2, 1) := by decide +kernel
theorem d_Model_gang_198 : decode b_Model_gang 198 = .ok (.iaload, 1) := by decide +kernel
theorem d_Model_gang_199 : decode b_Model_gang 199 = .ok (.ireturn, 1) := by decide +kernel
theorem d_Model_gang : decode b_Model_gang 0 = .ok (.aload_n 0, 1) ∧ decode b_Model_gang 1 = .ok (.iload_n 1, 1) ∧ decode b_Model_gang 2 = .ok (.invokestatic 82, 3) ∧ decode b_Model_gang 5 = .ok (.ifCond .eq 21, 3) ∧ decode b_Model_gang 8 = .ok (.iload_n 2, 1) ∧ decode b_Model_gang 9 = .ok (.invokestatic 65, 3) ∧ decode b_Model_gang 12 = .ok (.ifCond .eq 14, 3) ∧ decode b_Model_gang 15 = .ok (.iload_n 3, 1) ∧ decode b_Model_gang 16 = .ok (.invokestatic 108, 3) ∧ decode b_Model_gang 19 = .ok (.ifCond .eq 7, 3) ∧ decode b_Model_gang 22 = .ok (.iconst 0, 1) ∧ decode b_Model_gang 23 = .ok (.goto 4, 3) ∧ decode b_Model_gang 26 = .ok (.iconst 1, 1) ∧ decode b_Model_gang 27 = .ok (.putfield 52, 3) ∧ decode b_Model_gang 30 = .ok (.aload_n 0, 1) ∧ decode b_Model_gang 31 = .ok (.getfield 52, 3) ∧ decode b_Model_gang 34 = .ok (.ifCond .le 5, 3) ∧ decode b_Model_gang 37 = .ok (.iconst 0, 1) ∧ decode b_Model_gang 38 = .ok (.ireturn, 1) ∧ decode b_Model_gang 39 = .ok (.iconst (-1), 1) ∧ decode b_Model_gang 40 = .ok (.istore 4, 2) ∧ decode b_Model_gang 42 = .ok (.iconst 0, 1) ∧ decode b_Model_gang 43 = .ok (.istore 5, 2) ∧ decode b_Model_gang 45 = .ok (.iload 5, 2) ∧ decode b_Model_gang 47 = .ok (.aload_n 0, 1) ∧ decode b_Model_gang 48 = .ok (.getfield 17, 3) ∧ decode b_Model_gang 51 = .ok (.iload_n 2, 1) ∧ decode b_Model_gang 52 = .ok (.iaload, 1) ∧ decode b_Model_gang 53 = .ok (.if_icmp .ge 133, 3) ∧ decode b_Model_gang 56 = .ok (.aload_n 0, 1) ∧ decode b_Model_gang 57 = .ok (.iload_n 2, 1) ∧ decode b_Model_gang 58 = .ok (.iload 5, 2) ∧ decode b_Model_gang 60 = .ok (.invokevirtual 98, 3) ∧ decode b_Model_gang 63 = .ok (.istore 6, 2) ∧ decode b_Model_gang 65 = .ok (.aload_n 0, 1) ∧ decode b_Model_gang 66 = .ok (.iload 6, 2) ∧ decode b_Model_gang 68 = .ok (.iload_n 3, 1) ∧ decode b_Model_gang 69 = .ok (.invokevirtual 91, 3) ∧ decode b_Model_gang 72 = .ok (.invokestatic 55, 3) ∧ decode b_Model_gang 75 = .ok (.iconst 2, 1) ∧ decode b_Model_gang 76 = .ok (.if_icmp .ne 10, 3) ∧ decode b_Model_gang 79 = .ok (.iload 6, 2) ∧ decode b_Model_gang 81 = .ok (.istore 4, 2) ∧ decode b_Model_gang 83 = .ok (.goto 97, 3) ∧ decode b_Model_gang 86 = .ok (.iload 4, 2) ∧ decode b_Model_gang 88 = .ok (.ifCond .lt 92, 3) ∧ decode b_Model_gang 91 = .ok (.aload_n 0, 1) ∧ decode b_Model_gang 92 = .ok (.iload_n 1, 1) ∧ decode b_Model_gang 93 = .ok (.iload 4, 2) ∧ decode b_Model_gang 95 = .ok (.iload 6, 2) ∧ decode b_Model_gang 97 = .ok (.invokevirtual 158, 3) ∧ decode b_Model_gang 100 = .ok (.istore 7, 2) ∧ decode b_Model_gang 102 = .ok (.iload 7, 2) ∧ decode b_Model_gang 104 = .ok (.ifCond .le 12, 3) ∧ decode b_Model_gang 107 = .ok (.aload_n 0, 1) ∧ decode b_Model_gang 108 = .ok (.iload 7, 2) ∧ decode b_Model_gang 110 = .ok (.iload 5, 2) ∧ decode b_Model_gang 112 = .ok (.invokevirtual 155, 3) ∧ decode b_Model_gang 115 = .ok (.ireturn, 1) ∧ decode b_Model_gang 116 = .ok (.iconst 0, 1) ∧ decode b_Model_gang 117 = .ok (.istore 8, 2) ∧ decode b_Model_gang 119 = .ok (.iload 8, 2) ∧ decode b_Model_gang 121 = .ok (.bipush 16, 2) ∧ decode b_Model_gang 123 = .ok (.if_icmp .ge 57, 3) ∧ decode b_Model_gang 126 = .ok (.aload_n 0, 1) ∧ decode b_Model_gang 127 = .ok (.iload_n 1, 1) ∧ decode b_Model_gang 128 = .ok (.iload 8, 2) ∧ decode b_Model_gang 130 = .ok (.iload 4, 2) ∧ decode b_Model_gang 132 = .ok (.invokevirtual 151, 3) ∧ decode b_Model_gang 135 = .ok (.istore 9, 2) ∧ decode b_Model_gang 137 = .ok (.aload_n 0, 1) ∧ decode b_Model_gang 138 = .ok (.getfield 7, 3) ∧ decode b_Model_gang 141 = .ok (.bipush 16, 2) ∧ decode b_Model_gang 143 = .ok (.iload 6, 2) ∧ decode b_Model_gang 145 = .ok (.imul, 1) ∧ decode b_Model_gang 146 = .ok (.iload 8, 2) ∧ decode b_Model_gang 148 = .ok (.iadd, 1) ∧ decode b_Model_gang 149 = .ok (.iload 9, 2) ∧ decode b_Model_gang 151 = .ok (.ifCond .ge 19, 3) ∧ decode b_Model_gang 154 = .ok (.aload_n 0, 1) ∧ decode b_Model_gang 155 = .ok (.getfield 7, 3) ∧ decode b_Model_gang 158 = .ok (.bipush 16, 2) ∧ decode b_Model_gang 160 = .ok (.iload 6, 2) ∧ decode b_Model_gang 162 = .ok (.imul, 1) ∧ decode b_Model_gang 163 = .ok (.iload 8, 2) ∧ decode b_Model_gang 165 = .ok (.iadd, 1) ∧ decode b_Model_gang 166 = .ok (.baload, 1) ∧ decode b_Model_gang 167 = .ok (.goto 6, 3) ∧ decode b_Model_gang 170 = .ok (.iload 9, 2) ∧ decode b_Model_gang 172 = .ok (.i2b, 1) ∧ decode b_Model_gang 173 = .ok (.bastore, 1) ∧ decode b_Model_gang 174 = .ok (.iinc 8 1, 3) ∧ decode b_Model_gang 177 = .ok (.goto (-58), 3) ∧ decode b_Model_gang 180 = .ok (.iinc 5 1, 3) ∧ decode b_Model_gang 183 = .ok (.goto (-138), 3) ∧ decode b_Model_gang 186 = .ok (.aload_n 0, 1) ∧ decode b_Model_gang 187 = .ok (.iconst 0, 1) ∧ decode b_Model_gang 188 = .ok (.iconst (-1), 1) ∧ decode b_Model_gang 189 = .ok (.invokevirtual 155, 3) ∧ decode b_Model_gang 192 = .ok (.pop, 1) ∧ decode b_Model_gang 193 = .ok (.aload_n 0, 1) ∧ decode b_Model_gang 194 = .ok (.getfield 17, 3) ∧ decode b_Model_gang 197 = .ok (.iload_n 2, 1) ∧ decode b_Model_gang 198 = .ok (.iaload, 1) ∧ decode b_Model_gang 199 = .ok (.ireturn, 1) := ⟨d_Model_gang_0, d_Model_gang_1, d_Model_gang_2, d_Model_gang_5, d_Model_gang_8, d_Model_gang_9, d_Model_gang_12, d_Model_gang_15, d_Model_gang_16, d_Model_gang_19, d_Model_gang_22, d_Model_gang_23, d_Model_gang_26, d_Model_gang_27, d_Model_gang_30, d_Model_gang_31, d_Model_gang_34, d_Model_gang_37, d_Model_gang_38, d_Model_gang_39, d_Model_gang_40, d_Model_gang_42, d_Model_gang_43, d_Model_gang_45, d_Model_gang_47, d_Model_gang_48, d_Model_gang_51, d_Model_gang_52, d_Model_gang_53, d_Model_gang_56, d_Model_gang_57, d_Model_gang_58, d_Model_gang_60, d_Model_gang_63, d_Model_gang_65, d_Model_gang_66, d_Model_gang_68, d_Model_gang_69, d_Model_gang_72, d_Model_gang_75, d_Model_gang_76, d_Model_gang_79, d_Model_gang_81, d_Model_gang_83, d_Model_gang_86, d_Model_gang_88, d_Model_gang_91, d_Model_gang_92, d_Model_gang_93, d_Model_gang_95, d_Model_gang_97, d_Model_gang_100, d_Model_gang_102, d_Model_gang_104, d_Model_gang_107, d_Model_gang_108, d_Model_gang_110, d_Model_gang_112, d_Model_gang_115, d_Model_gang_116, d_Model_gang_117, d_Model_gang_119, d_Model_gang_121, d_Model_gang_123, d_Model_gang_126, d_Model_gang_127, d_Model_gang_128, d_Model_gang_130, d_Model_gang_132, d_Model_gang_135, d_Model_gang_137, d_Model_gang_138, d_Model_gang_141, d_Model_gang_143, d_Model_gang_145, d_Model_gang_146, d_Model_gang_148, d_Model_gang_149, d_Model_gang_151, d_Model_gang_154, d_Model_gang_155, d_Model_gang_158, d_Model_gang_160, d_Model_gang_162, d_Model_gang_163, d_Model_gang_165, d_Model_gang_166, d_Model_gang_167, d_Model_gang_170, d_Model_gang_172, d_Model_gang_173, d_Model_gang_174, d_Model_gang_177, d_Model_gang_180, d_Model_gang_183, d_Model_gang_186, d_Model_gang_187, d_Model_gang_188, d_Model_gang_189, d_Model_gang_192, d_Model_gang_193, d_Model_gang_194, d_Model_gang_197, d_Model_gang_198, d_Model_gang_199⟩
theorem v_Model_gang : Cond.instanceMethod y_Model_gang ∈ nm_Ts ∧ Cond.selects y_Model_gang.cls y_Model_gang y_Model_gang ∈ nm_Ts ∧ Cond.initialized y_Model_gang.cls ∈ nm_Ts ∧ Cond.code y_Model_gang b_Model_gang 10 (some .int) ∈ nm_Ts ∧ mz_cl1 y_Model_gang 3 := ⟨nm_t5 30 rfl rfl, nm_t5 31 rfl rfl, nm_t1 12 rfl rfl, nm_t5 32 rfl rfl, by decide +kernel⟩
def y_Model_faultOfGang : MethodName := ⟨"CardOfficeModel", "faultOfGang", "(III)I"⟩
abbrev b_Model_faultOfGang : ByteArray := prog_14_method_38_code
def r_Model_faultOfGang (c s : Nat) : Room := { frames := 3, cells := c, slots := s, locals := 71 }
theorem d_Model_faultOfGang_0 : decode b_Model_faultOfGang 0 = .ok (.iconst 0, 1) := by decide +kernel
theorem d_Model_faultOfGang_1 : decode b_Model_faultOfGang 1 = .ok (.istore 4, 2) := by decide +kernel
theorem d_Model_faultOfGang_3 : decode b_Model_faultOfGang 3 = .ok (.iconst 0, 1) := by decide +kernel
theorem d_Model_faultOfGang_4 : decode b_Model_faultOfGang 4 = .ok (.istore 5, 2) := by decide +kernel
theorem d_Model_faultOfGang_6 : decode b_Model_faultOfGang 6 = .ok (.bipush 40, 2) := by decide +kernel
theorem d_Model_faultOfGang_8 : decode b_Model_faultOfGang 8 = .ok (.iload_n 1, 1) := by decide +kernel
theorem d_Model_faultOfGang_9 : decode b_Model_faultOfGang 9 = .ok (.imul, 1) := by decide +kernel
theorem d_Model_faultOfGang_10 : decode b_Model_faultOfGang 10 = .ok (.istore 6, 2) := by decide +kernel
theorem d_Model_faultOfGang_12 : decode b_Model_faultOfGang 12 = .ok (.iload 6, 2) := by decide +kernel
theorem d_Model_faultOfGang_14 : decode b_Model_faultOfGang 14 = .ok (.bipush 40, 2) := by decide +kernel
theorem d_Model_faultOfGang_16 : decode b_Model_faultOfGang 16 = .ok (.iload_n 1, 1) := by decide +kernel
theorem d_Model_faultOfGang_17 : decode b_Model_faultOfGang 17 = .ok (.imul, 1) := by decide +kernel
theorem d_Model_faultOfGang_18 : decode b_Model_faultOfGang 18 = .ok (.aload_n 0, 1) := by decide +kernel
theorem d_Model_faultOfGang_19 : decode b_Model_faultOfGang 19 = .ok (.getfield 33, 3) := by decide +kernel
theorem d_Model_faultOfGang_22 : decode b_Model_faultOfGang 22 = .ok (.iload_n 1, 1) := by decide +kernel
theorem d_Model_faultOfGang_23 : decode b_Model_faultOfGang 23 = .ok (.iaload, 1) := by decide +kernel
theorem d_Model_faultOfGang_24 : decode b_Model_faultOfGang 24 = .ok (.iadd, 1) := by decide +kernel
theorem d_Model_faultOfGang_25 : decode b_Model_faultOfGang 25 = .ok (.if_icmp .ge 105, 3) := by decide +kernel
theorem d_Model_faultOfGang_28 : decode b_Model_faultOfGang 28 = .ok (.aload_n 0, 1) := by decide +kernel
theorem d_Model_faultOfGang_29 : decode b_Model_faultOfGang 29 = .ok (.iload 6, 2) := by decide +kernel
theorem d_Model_faultOfGang_31 : decode b_Model_faultOfGang 31 = .ok (.iload_n 2, 1) := by decide +kernel
theorem d_Model_faultOfGang_32 : decode b_Model_faultOfGang 32 = .ok (.invokevirtual 95, 3) := by decide +kernel
theorem d_Model_faultOfGang_35 : decode b_Model_faultOfGang 35 = .ok (.istore 7, 2) := by decide +kernel
theorem d_Model_faultOfGang_37 : decode b_Model_faultOfGang 37 = .ok (.aload_n 0, 1) := by decide +kernel
theorem d_Model_faultOfGang_38 : decode b_Model_faultOfGang 38 = .ok (.getfield 30, 3) := by decide +kernel
theorem d_Model_faultOfGang_41 : decode b_Model_faultOfGang 41 = .ok (.iload 6, 2) := by decide +kernel
theorem d_Model_faultOfGang_43 : decode b_Model_faultOfGang 43 = .ok (.baload, 1) := by decide +kernel
theorem d_Model_faultOfGang_44 : decode b_Model_faultOfGang 44 = .ok (.bipush 16, 2) := by decide +kernel
theorem d_Model_faultOfGang_46 : decode b_Model_faultOfGang 46 = .ok (.if_icmp .ge 78, 3) := by decide +kernel
theorem d_Model_faultOfGang_49 : decode b_Model_faultOfGang 49 = .ok (.iload 7, 2) := by decide +kernel
theorem d_Model_faultOfGang_51 : decode b_Model_faultOfGang 51 = .ok (.ifCond .lt 73, 3) := by decide +kernel
theorem d_Model_faultOfGang_54 : decode b_Model_faultOfGang 54 = .ok (.aload_n 0, 1) := by decide +kernel
theorem d_Model_faultOfGang_55 : decode b_Model_faultOfGang 55 = .ok (.iload_n 3, 1) := by decide +kernel
theorem d_Model_faultOfGang_56 : decode b_Model_faultOfGang 56 = .ok (.aload_n 0, 1) := by decide +kernel
theorem d_Model_faultOfGang_57 : decode b_Model_faultOfGang 57 = .ok (.getfield 30, 3) := by decide +kernel
theorem d_Model_faultOfGang_60 : decode b_Model_faultOfGang 60 = .ok (.iload 6, 2) := by decide +kernel
theorem d_Model_faultOfGang_62 : decode b_Model_faultOfGang 62 = .ok (.baload, 1) := by decide +kernel
theorem d_Model_faultOfGang_63 : decode b_Model_faultOfGang 63 = .ok (.invokevirtual 91, 3) := by decide +kernel
theorem d_Model_faultOfGang_66 : decode b_Model_faultOfGang 66 = .ok (.istore 8, 2) := by decide +kernel
theorem d_Model_faultOfGang_68 : decode b_Model_faultOfGang 68 = .ok (.iload 5, 2) := by decide +kernel
theorem d_Model_faultOfGang_70 : decode b_Model_faultOfGang 70 = .ok (.ifCond .ne 17, 3) := by decide +kernel
theorem d_Model_faultOfGang_73 : decode b_Model_faultOfGang 73 = .ok (.iload 8, 2) := by decide +kernel
theorem d_Model_faultOfGang_75 : decode b_Model_faultOfGang 75 = .ok (.bipush 32, 2) := by decide +kernel
theorem d_Model_faultOfGang_77 : decode b_Model_faultOfGang 77 = .ok (.if_icmp .eq 14, 3) := by decide +kernel
theorem d_Model_faultOfGang_80 : decode b_Model_faultOfGang 80 = .ok (.iload 8, 2) := by decide +kernel
theorem d_Model_faultOfGang_82 : decode b_Model_faultOfGang 82 = .ok (.iload 7, 2) := by decide +kernel
theorem d_Model_faultOfGang_84 : decode b_Model_faultOfGang 84 = .ok (.if_icmp .eq 7, 3) := by decide +kernel
theorem d_Model_faultOfGang_87 : decode b_Model_faultOfGang 87 = .ok (.iconst 1, 1) := by decide +kernel
theorem d_Model_faultOfGang_88 : decode b_Model_faultOfGang 88 = .ok (.goto 4, 3) := by decide +kernel
theorem d_Model_faultOfGang_91 : decode b_Model_faultOfGang 91 = .ok (.iconst 0, 1) := by decide +kernel
theorem d_Model_faultOfGang_92 : decode b_Model_faultOfGang 92 = .ok (.istore 5, 2) := by decide +kernel
theorem d_Model_faultOfGang_94 : decode b_Model_faultOfGang 94 = .ok (.iload 4, 2) := by decide +kernel
theorem d_Model_faultOfGang_96 : decode b_Model_faultOfGang 96 = .ok (.ifCond .ne 21, 3) := by decide +kernel
theorem d_Model_faultOfGang_99 : decode b_Model_faultOfGang 99 = .ok (.aload_n 0, 1) := by decide +kernel
theorem d_Model_faultOfGang_100 : decode b_Model_faultOfGang 100 = .ok (.iload_n 1, 1) := by decide +kernel
theorem d_Model_faultOfGang_101 : decode b_Model_faultOfGang 101 = .ok (.aload_n 0, 1) := by decide +kernel
theorem d_Model_faultOfGang_102 : decode b_Model_faultOfGang 102 = .ok (.getfield 30, 3) := by decide +kernel
theorem d_Model_faultOfGang_105 : decode b_Model_faultOfGang 105 = .ok (.iload 6, 2) := by decide +kernel
theorem d_Model_faultOfGang_107 : decode b_Model_faultOfGang 107 = .ok (.baload, 1) := by decide +kernel
theorem d_Model_faultOfGang_108 : decode b_Model_faultOfGang 108 = .ok (.iload_n 2, 1) := by decide +kernel
theorem d_Model_faultOfGang_109 : decode b_Model_faultOfGang 109 = .ok (.invokevirtual 151, 3) := by decide +kernel
theorem d_Model_faultOfGang_112 : decode b_Model_faultOfGang 112 = .ok (.bipush (-2), 2) := by decide +kernel
theorem d_Model_faultOfGang_114 : decode b_Model_faultOfGang 114 = .ok (.if_icmp .ne 7, 3) := by decide +kernel
theorem d_Model_faultOfGang_117 : decode b_Model_faultOfGang 117 = .ok (.iconst 1, 1) := by decide +kernel
theorem d_Model_faultOfGang_118 : decode b_Model_faultOfGang 118 = .ok (.goto 4, 3) := by decide +kernel
theorem d_Model_faultOfGang_121 : decode b_Model_faultOfGang 121 = .ok (.iconst 0, 1) := by decide +kernel
theorem d_Model_faultOfGang_122 : decode b_Model_faultOfGang 122 = .ok (.istore 4, 2) := by decide +kernel
theorem d_Model_faultOfGang_124 : decode b_Model_faultOfGang 124 = .ok (.iinc 6 1, 3) := by decide +kernel
theorem d_Model_faultOfGang_127 : decode b_Model_faultOfGang 127 = .ok (.goto (-115), 3) := by decide +kernel
theorem d_Model_faultOfGang_130 : decode b_Model_faultOfGang 130 = .ok (.iload 5, 2) := by decide +kernel
theorem d_Model_faultOfGang_132 : decode b_Model_faultOfGang 132 = .ok (.ifCond .eq 7, 3) := by decide +kernel
theorem d_Model_faultOfGang_135 : decode b_Model_faultOfGang 135 = .ok (.iconst 1, 1) := by decide +kernel
theorem d_Model_faultOfGang_136 : decode b_Model_faultOfGang 136 = .ok (.goto 13, 3) := by decide +kernel
theorem d_Model_faultOfGang_139 : decode b_Model_faultOfGang 139 = .ok (.iload 4, 2) := by decide +kernel
theorem d_Model_faultOfGang_141 : decode b_Model_faultOfGang 141 = .ok (.ifCond .eq 7, 3) := by decide +kernel
theorem d_Model_faultOfGang_144 : decode b_Model_faultOfGang 144 = .ok (.iconst 2, 1) := by decide +kernel
theorem d_Model_faultOfGang_145 : decode b_Model_faultOfGang 145 = .ok (.goto 4, 3) := by decide +kernel
theorem d_Model_faultOfGang_148 : decode b_Model_faultOfGang 148 = .ok (.iconst 0, 1) := by decide +kernel
theorem d_Model_faultOfGang_149 : decode b_Model_faultOfGang 149 = .ok (.ireturn, 1) := by decide +kernel
theorem v_Model_faultOfGang : Cond.instanceMethod y_Model_faultOfGang ∈ nm_Ts ∧ Cond.selects y_Model_faultOfGang.cls y_Model_faultOfGang y_Model_faultOfGang ∈ nm_Ts ∧ Cond.initialized y_Model_faultOfGang.cls ∈ nm_Ts ∧ Cond.code y_Model_faultOfGang b_Model_faultOfGang 9 (some .int) ∈ nm_Ts ∧ mz_cl1 y_Model_faultOfGang 3 := ⟨nm_t5 35 rfl rfl, nm_s 34 rfl rfl, nm_t1 12 rfl rfl, nm_t5 36 rfl rfl, by decide +kernel⟩
def y_Model_multiply : MethodName := ⟨"CardOfficeModel", "multiply", "(IIII)I"⟩
abbrev b_Model_multiply : ByteArray := prog_14_method_44_code
def r_Model_multiply (c s : Nat) : Room := { frames := 2, cells := c, slots := s, locals := 52 }
theorem d_Model_multiply_0 : decode b_Model_multiply 0 = .ok (.iload_n 1, 1) := by decide +kernel
theorem d_Model_multiply_1 : decode b_Model_multiply 1 = .ok (.invokestatic 65, 3) := by decide +kernel
theorem d_Model_multiply_4 : decode b_Model_multiply 4 = .ok (.ifCond .eq 47, 3) := by decide +kernel
theorem d_Model_multiply_7 : decode b_Model_multiply 7 = .ok (.iload_n 2, 1) := by decide +kernel
theorem d_Model_multiply_8 : decode b_Model_multiply 8 = .ok (.invokestatic 163, 3) := by decide +kernel
theorem d_Model_multiply_11 : decode b_Model_multiply 11 = .ok (.ifCond .eq 40, 3) := by decide +kernel
theorem d_Model_multiply_14 : decode b_Model_multiply 14 = .ok (.iload_n 3, 1) := by decide +kernel
theorem d_Model_multiply_15 : decode b_Model_multiply 15 = .ok (.invokestatic 163, 3) := by decide +kernel
theorem d_Model_multiply_18 : decode b_Model_multiply 18 = .ok (.ifCond .eq 33, 3) := by decide +kernel
theorem d_Model_multiply_21 : decode b_Model_multiply 21 = .ok (.iload 4, 2) := by decide +kernel
theorem d_Model_multiply_23 : decode b_Model_multiply 23 = .ok (.invokestatic 163, 3) := by decide +kernel
theorem d_Model_multiply_26 : decode b_Model_multiply 26 = .ok (.ifCond .eq 25, 3) := by decide +kernel
theorem d_Model_multiply_29 : decode b_Model_multiply 29 = .ok (.iload 4, 2) := by decide +kernel
theorem d_Model_multiply_31 : decode b_Model_multiply 31 = .ok (.iload_n 2, 1) := by decide +kernel
theorem d_Model_multiply_32 : decode b_Model_multiply 32 = .ok (.invokestatic 166, 3) := by decide +kernel
theorem d_Model_multiply_35 : decode b_Model_multiply 35 = .ok (.ifCond .ne 16, 3) := by decide +kernel
theorem d_Model_multiply_38 : decode b_Model_multiply 38 = .ok (.iload 4, 2) := by decide +kernel
theorem d_Model_multiply_40 : decode b_Model_multiply 40 = .ok (.iload_n 3, 1) := by decide +kernel
theorem d_Model_multiply_41 : decode b_Model_multiply 41 = .ok (.invokestatic 166, 3) := by decide +kernel
theorem d_Model_multiply_44 : decode b_Model_multiply 44 = .ok (.ifCond .ne 7, 3) := by decide +kernel
theorem d_Model_multiply_47 : decode b_Model_multiply 47 = .ok (.iconst 1, 1) := by decide +kernel
theorem d_Model_multiply_48 : decode b_Model_multiply 48 = .ok (.goto 4, 3) := by decide +kernel
theorem d_Model_multiply_51 : decode b_Model_multiply 51 = .ok (.iconst 0, 1) := by decide +kernel
theorem d_Model_multiply_52 : decode b_Model_multiply 52 = .ok (.istore 5, 2) := by decide +kernel
theorem d_Model_multiply_54 : decode b_Model_multiply 54 = .ok (.aload_n 0, 1) := by decide +kernel
theorem d_Model_multiply_55 : decode b_Model_multiply 55 = .ok (.iload 5, 2) := by decide +kernel
theorem d_Model_multiply_57 : decode b_Model_multiply 57 = .ok (.ifCond .eq 7, 3) := by decide +kernel
theorem d_Model_multiply_60 : decode b_Model_multiply 60 = .ok (.iconst 0, 1) := by decide +kernel
theorem d_Model_multiply_61 : decode b_Model_multiply 61 = .ok (.goto 4, 3) := by decide +kernel
theorem d_Model_multiply_64 : decode b_Model_multiply 64 = .ok (.iconst 1, 1) := by decide +kernel
theorem d_Model_multiply_65 : decode b_Model_multiply 65 = .ok (.putfield 52, 3) := by decide +kernel
theorem d_Model_multiply_68 : decode b_Model_multiply 68 = .ok (.iload 5, 2) := by decide +kernel
theorem d_Model_multiply_70 : decode b_Model_multiply 70 = .ok (.ifCond .ne 5, 3) := by decide +kernel
theorem d_Model_multiply_73 : decode b_Model_multiply 73 = .ok (.iconst 0, 1) := by decide +kernel
theorem d_Model_multiply_74 : decode b_Model_multiply 74 = .ok (.ireturn, 1) := by decide +kernel
theorem d_Model_multiply_75 : decode b_Model_multiply 75 = .ok (.iconst 0, 1) := by decide +kernel
theorem d_Model_multiply_76 : decode b_Model_multiply 76 = .ok (.istore 6, 2) := by decide +kernel
theorem d_Model_multiply_78 : decode b_Model_multiply 78 = .ok (.iload 6, 2) := by decide +kernel
theorem d_Model_multiply_80 : decode b_Model_multiply 80 = .ok (.aload_n 0, 1) := by decide +kernel
theorem d_Model_multiply_81 : decode b_Model_multiply 81 = .ok (.getfield 17, 3) := by decide +kernel
theorem d_Model_multiply_84 : decode b_Model_multiply 84 = .ok (.iload_n 1, 1) := by decide +kernel
theorem d_Model_multiply_85 : decode b_Model_multiply 85 = .ok (.iaload, 1) := by decide +kernel
theorem d_Model_multiply_86 : decode b_Model_multiply 86 = .ok (.if_icmp .ge 142, 3) := by decide +kernel
theorem d_Model_multiply_89 : decode b_Model_multiply 89 = .ok (.aload_n 0, 1) := by decide +kernel
theorem d_Model_multiply_90 : decode b_Model_multiply 90 = .ok (.iload_n 1, 1) := by decide +kernel
theorem d_Model_multiply_91 : decode b_Model_multiply 91 = .ok (.iload 6, 2) := by decide +kernel
theorem d_Model_multiply_93 : decode b_Model_multiply 93 = .ok (.invokevirtual 98, 3) := by decide +kernel
theorem d_Model_multiply_96 : decode b_Model_multiply 96 = .ok (.istore 7, 2) := by decide +kernel
theorem d_Model_multiply_98 : decode b_Model_multiply 98 = .ok (.aload_n 0, 1) := by decide +kernel
theorem d_Model_multiply_99 : decode b_Model_multiply 99 = .ok (.iload 7, 2) := by decide +kernel
theorem d_Model_multiply_101 : decode b_Model_multiply 101 = .ok (.iload_n 2, 1) := by decide +kernel
theorem d_Model_multiply_102 : decode b_Model_multiply 102 = .ok (.invokevirtual 169, 3) := by decide +kernel
theorem d_Model_multiply_105 : decode b_Model_multiply 105 = .ok (.istore 8, 2) := by decide +kernel
theorem d_Model_multiply_107 : decode b_Model_multiply 107 = .ok (.aload_n 0, 1) := by decide +kernel
theorem d_Model_multiply_108 : decode b_Model_multiply 108 = .ok (.iload 7, 2) := by decide +kernel
theorem d_Model_multiply_110 : decode b_Model_multiply 110 = .ok (.iload_n 3, 1) := by decide +kernel
theorem d_Model_multiply_111 : decode b_Model_multiply 111 = .ok (.invokevirtual 169, 3) := by decide +kernel
theorem d_Model_multiply_114 : decode b_Model_multiply 114 = .ok (.istore 9, 2) := by decide +kernel
theorem d_Model_multiply_116 : decode b_Model_multiply 116 = .ok (.iload 8, 2) := by decide +kernel
theorem d_Model_multiply_118 : decode b_Model_multiply 118 = .ok (.ifCond .lt 8, 3) := by decide +kernel
theorem d_Model_multiply_121 : decode b_Model_multiply 121 = .ok (.iload 9, 2) := by decide +kernel
theorem d_Model_multiply_123 : decode b_Model_multiply 123 = .ok (.ifCond .ge 11, 3) := by decide +kernel
theorem d_Model_multiply_126 : decode b_Model_multiply 126 = .ok (.aload_n 0, 1) := by decide +kernel
theorem d_Model_multiply_127 : decode b_Model_multiply 127 = .ok (.iconst 1, 1) := by decide +kernel
theorem d_Model_multiply_128 : decode b_Model_multiply 128 = .ok (.iload 6, 2) := by decide +kernel
theorem d_Model_multiply_130 : decode b_Model_multiply 130 = .ok (.invokevirtual 155, 3) := by decide +kernel
theorem d_Model_multiply_133 : decode b_Model_multiply 133 = .ok (.ireturn, 1) := by decide +kernel
theorem d_Model_multiply_134 : decode b_Model_multiply 134 = .ok (.iload 8, 2) := by decide +kernel
theorem d_Model_multiply_136 : decode b_Model_multiply 136 = .ok (.i2l, 1) := by decide +kernel
theorem d_Model_multiply_137 : decode b_Model_multiply 137 = .ok (.iload 9, 2) := by decide +kernel
theorem d_Model_multiply_139 : decode b_Model_multiply 139 = .ok (.i2l, 1) := by decide +kernel
theorem d_Model_multiply_140 : decode b_Model_multiply 140 = .ok (.lmul, 1) := by decide +kernel
theorem d_Model_multiply_141 : decode b_Model_multiply 141 = .ok (.ldc2_w 172, 3) := by decide +kernel
theorem d_Model_multiply_144 : decode b_Model_multiply 144 = .ok (.ladd, 1) := by decide +kernel
theorem d_Model_multiply_145 : decode b_Model_multiply 145 = .ok (.ldc2_w 161, 3) := by decide +kernel
theorem d_Model_multiply_148 : decode b_Model_multiply 148 = .ok (.ldiv, 1) := by decide +kernel
theorem d_Model_multiply_149 : decode b_Model_multiply 149 = .ok (.lstore 10, 2) := by decide +kernel
theorem d_Model_multiply_151 : decode b_Model_multiply 151 = .ok (.lload 10, 2) := by decide +kernel
theorem d_Model_multiply_153 : decode b_Model_multiply 153 = .ok (.iconst 1, 1) := by decide +kernel
theorem d_Model_multiply_154 : decode b_Model_multiply 154 = .ok (.iload 4, 2) := by decide +kernel
theorem d_Model_multiply_156 : decode b_Model_multiply 156 = .ok (.bipush 16, 2) := by decide +kernel
theorem d_Model_multiply_158 : decode b_Model_multiply 158 = .ok (.idiv, 1) := by decide +kernel
theorem d_Model_multiply_159 : decode b_Model_multiply 159 = .ok (.iadd, 1) := by decide +kernel
theorem d_Model_multiply_160 : decode b_Model_multiply 160 = .ok (.invokestatic 174, 3) := by decide +kernel
theorem d_Model_multiply_163 : decode b_Model_multiply 163 = .ok (.lcmp, 1) := by decide +kernel
theorem d_Model_multiply_164 : decode b_Model_multiply 164 = .ok (.ifCond .lt 7, 3) := by decide +kernel
theorem d_Model_multiply_167 : decode b_Model_multiply 167 = .ok (.iconst 1, 1) := by decide +kernel
theorem d_Model_multiply_168 : decode b_Model_multiply 168 = .ok (.goto 4, 3) := by decide +kernel
theorem d_Model_multiply_171 : decode b_Model_multiply 171 = .ok (.iconst 0, 1) := by decide +kernel
theorem d_Model_multiply_172 : decode b_Model_multiply 172 = .ok (.istore 12, 2) := by decide +kernel
theorem d_Model_multiply_174 : decode b_Model_multiply 174 = .ok (.iload 12, 2) := by decide +kernel
theorem d_Model_multiply_176 : decode b_Model_multiply 176 = .ok (.ifCond .eq 11, 3) := by decide +kernel
theorem d_Model_multiply_179 : decode b_Model_multiply 179 = .ok (.aload_n 0, 1) := by decide +kernel
theorem d_Model_multiply_180 : decode b_Model_multiply 180 = .ok (.iconst 3, 1) := by decide +kernel
theorem d_Model_multiply_181 : decode b_Model_multiply 181 = .ok (.iload 6, 2) := by decide +kernel
theorem d_Model_multiply_183 : decode b_Model_multiply 183 = .ok (.invokevirtual 155, 3) := by decide +kernel
theorem d_Model_multiply_186 : decode b_Model_multiply 186 = .ok (.ireturn, 1) := by decide +kernel
theorem d_Model_multiply_187 : decode b_Model_multiply 187 = .ok (.aload_n 0, 1) := by decide +kernel
theorem d_Model_multiply_188 : decode b_Model_multiply 188 = .ok (.iload 7, 2) := by decide +kernel
theorem d_Model_multiply_190 : decode b_Model_multiply 190 = .ok (.iload 4, 2) := by decide +kernel
theorem d_Model_multiply_192 : decode b_Model_multiply 192 = .ok (.lload 10, 2) := by decide +kernel
theorem d_Model_multiply_194 : decode b_Model_multiply 194 = .ok (.iconst 0, 1) := by decide +kernel
theorem d_Model_multiply_195 : decode b_Model_multiply 195 = .ok (.invokevirtual 178, 3) := by decide +kernel
theorem d_Model_multiply_198 : decode b_Model_multiply 198 = .ok (.ifCond .ne 11, 3) := by decide +kernel
theorem d_Model_multiply_201 : decode b_Model_multiply 201 = .ok (.aload_n 0, 1) := by decide +kernel
theorem d_Model_multiply_202 : decode b_Model_multiply 202 = .ok (.iconst 1, 1) := by decide +kernel
theorem d_Model_multiply_203 : decode b_Model_multiply 203 = .ok (.iload 6, 2) := by decide +kernel
theorem d_Model_multiply_205 : decode b_Model_multiply 205 = .ok (.invokevirtual 155, 3) := by decide +kernel
theorem d_Model_multiply_208 : decode b_Model_multiply 208 = .ok (.ireturn, 1) := by decide +kernel
theorem d_Model_multiply_209 : decode b_Model_multiply 209 = .ok (.aload_n 0, 1) := by decide +kernel
theorem d_Model_multiply_210 : decode b_Model_multiply 210 = .ok (.iload 7, 2) := by decide +kernel
theorem d_Model_multiply_212 : decode b_Model_multiply 212 = .ok (.iload 4, 2) := by decide +kernel
theorem d_Model_multiply_214 : decode b_Model_multiply 214 = .ok (.lload 10, 2) := by decide +kernel
theorem d_Model_multiply_216 : decode b_Model_multiply 216 = .ok (.iconst 1, 1) := by decide +kernel
theorem d_Model_multiply_217 : decode b_Model_multiply 217 = .ok (.invokevirtual 178, 3) := by decide +kernel
theorem d_Model_multiply_220 : decode b_Model_multiply 220 = .ok (.istore 5, 2) := by decide +kernel
theorem d_Model_multiply_222 : decode b_Model_multiply 222 = .ok (.iinc 6 1, 3) := by decide +kernel
theorem d_Model_multiply_225 : decode b_Model_multiply 225 = .ok (.goto (-147), 3) := by decide +kernel
theorem d_Model_multiply_228 : decode b_Model_multiply 228 = .ok (.aload_n 0, 1) := by decide +kernel
theorem d_Model_multiply_229 : decode b_Model_multiply 229 = .ok (.iconst 0, 1) := by decide +kernel
theorem d_Model_multiply_230 : decode b_Model_multiply 230 = .ok (.iconst (-1), 1) := by decide +kernel
theorem d_Model_multiply_231 : decode b_Model_multiply 231 = .ok (.invokevirtual 155, 3) := by decide +kernel
theorem d_Model_multiply_234 : decode b_Model_multiply 234 = .ok (.pop, 1) := by decide +kernel
theorem d_Model_multiply_235 : decode b_Model_multiply 235 = .ok (.aload_n 0, 1) := by decide +kernel
theorem d_Model_multiply_236 : decode b_Model_multiply 236 = .ok (.getfield 17, 3) := by decide +kernel
theorem d_Model_multiply_239 : decode b_Model_multiply 239 = .ok (.iload_n 1, 1) := by decide +kernel
theorem d_Model_multiply_240 : decode b_Model_multiply 240 = .ok (.iaload, 1) := by decide +kernel
theorem d_Model_multiply_241 : decode b_Model_multiply 241 = .ok (.ireturn, 1) := by decide +kernel
theorem v_Model_multiply : Cond.instanceMethod y_Model_multiply ∈ nm_Ts ∧ Cond.selects y_Model_multiply.cls y_Model_multiply y_Model_multiply ∈ nm_Ts ∧ Cond.initialized y_Model_multiply.cls ∈ nm_Ts ∧ Cond.code y_Model_multiply b_Model_multiply 13 (some .int) ∈ nm_Ts ∧ mz_cl1 y_Model_multiply 4 := ⟨nm_t5 38 rfl rfl, nm_t5 39 rfl rfl, nm_t1 12 rfl rfl, nm_t5 40 rfl rfl, by decide +kernel⟩
def y_Model_isFactor : MethodName := ⟨"CardOfficeModel", "isFactor", "(I)Z"⟩
abbrev b_Model_isFactor : ByteArray := prog_14_method_39_code
def r_Model_isFactor (c s : Nat) : Room := { frames := 0, cells := c, slots := s, locals := 0 }
theorem d_Model_isFactor_0 : decode b_Model_isFactor 0 = .ok (.iload_n 0, 1) := by decide +kernel
theorem d_Model_isFactor_1 : decode b_Model_isFactor 1 = .ok (.ifCond .lt 27, 3) := by decide +kernel
theorem d_Model_isFactor_4 : decode b_Model_isFactor 4 = .ok (.iload_n 0, 1) := by decide +kernel
theorem d_Model_isFactor_5 : decode b_Model_isFactor 5 = .ok (.bipush 96, 2) := by decide +kernel
theorem d_Model_isFactor_7 : decode b_Model_isFactor 7 = .ok (.if_icmp .ge 21, 3) := by decide +kernel
theorem d_Model_isFactor_10 : decode b_Model_isFactor 10 = .ok (.iload_n 0, 1) := by decide +kernel
theorem d_Model_isFactor_11 : decode b_Model_isFactor 11 = .ok (.bipush 16, 2) := by decide +kernel
theorem d_Model_isFactor_13 : decode b_Model_isFactor 13 = .ok (.irem, 1) := by decide +kernel
theorem d_Model_isFactor_14 : decode b_Model_isFactor 14 = .ok (.iload_n 0, 1) := by decide +kernel
theorem d_Model_isFactor_15 : decode b_Model_isFactor 15 = .ok (.bipush 16, 2) := by decide +kernel
theorem d_Model_isFactor_17 : decode b_Model_isFactor 17 = .ok (.idiv, 1) := by decide +kernel
theorem d_Model_isFactor_18 : decode b_Model_isFactor 18 = .ok (.iadd, 1) := by decide +kernel
theorem d_Model_isFactor_19 : decode b_Model_isFactor 19 = .ok (.bipush 16, 2) := by decide +kernel
theorem d_Model_isFactor_21 : decode b_Model_isFactor 21 = .ok (.if_icmp .ge 7, 3) := by decide +kernel
theorem d_Model_isFactor_24 : decode b_Model_isFactor 24 = .ok (.iconst 1, 1) := by decide +kernel
theorem d_Model_isFactor_25 : decode b_Model_isFactor 25 = .ok (.goto 4, 3) := by decide +kernel
theorem d_Model_isFactor_28 : decode b_Model_isFactor 28 = .ok (.iconst 0, 1) := by decide +kernel
theorem d_Model_isFactor_29 : decode b_Model_isFactor 29 = .ok (.ireturn, 1) := by decide +kernel
theorem s_Model_isFactor : Cond.static y_Model_isFactor ∈ nm_Ts ∧ Cond.initialized y_Model_isFactor.cls ∈ nm_Ts ∧ Cond.code y_Model_isFactor b_Model_isFactor 1 (some .boolean) ∈ nm_Ts ∧ mz_cl1 y_Model_isFactor 1 := ⟨nm_t5 42 rfl rfl, nm_t1 12 rfl rfl, nm_t5 43 rfl rfl, by decide +kernel⟩
def y_Model_meet : MethodName := ⟨"CardOfficeModel", "meet", "(II)Z"⟩
abbrev b_Model_meet : ByteArray := prog_14_method_40_code
def r_Model_meet (c s : Nat) : Room := { frames := 0, cells := c, slots := s, locals := 0 }
theorem d_Model_meet_0 : decode b_Model_meet 0 = .ok (.iload_n 0, 1) := by decide +kernel
theorem d_Model_meet_1 : decode b_Model_meet 1 = .ok (.bipush 16, 2) := by decide +kernel
theorem d_Model_meet_3 : decode b_Model_meet 3 = .ok (.irem, 1) := by decide +kernel
theorem d_Model_meet_4 : decode b_Model_meet 4 = .ok (.iload_n 1, 1) := by decide +kernel
theorem d_Model_meet_5 : decode b_Model_meet 5 = .ok (.bipush 16, 2) := by decide +kernel
theorem d_Model_meet_7 : decode b_Model_meet 7 = .ok (.irem, 1) := by decide +kernel
theorem d_Model_meet_8 : decode b_Model_meet 8 = .ok (.iload_n 1, 1) := by decide +kernel
theorem d_Model_meet_9 : decode b_Model_meet 9 = .ok (.bipush 16, 2) := by decide +kernel
theorem d_Model_meet_11 : decode b_Model_meet 11 = .ok (.idiv, 1) := by decide +kernel
theorem d_Model_meet_12 : decode b_Model_meet 12 = .ok (.iadd, 1) := by decide +kernel
theorem d_Model_meet_13 : decode b_Model_meet 13 = .ok (.if_icmp .gt 23, 3) := by decide +kernel
theorem d_Model_meet_16 : decode b_Model_meet 16 = .ok (.iload_n 1, 1) := by decide +kernel
theorem d_Model_meet_17 : decode b_Model_meet 17 = .ok (.bipush 16, 2) := by decide +kernel
theorem d_Model_meet_19 : decode b_Model_meet 19 = .ok (.irem, 1) := by decide +kernel
theorem d_Model_meet_20 : decode b_Model_meet 20 = .ok (.iload_n 0, 1) := by decide +kernel
theorem d_Model_meet_21 : decode b_Model_meet 21 = .ok (.bipush 16, 2) := by decide +kernel
theorem d_Model_meet_23 : decode b_Model_meet 23 = .ok (.irem, 1) := by decide +kernel
theorem d_Model_meet_24 : decode b_Model_meet 24 = .ok (.iload_n 0, 1) := by decide +kernel
theorem d_Model_meet_25 : decode b_Model_meet 25 = .ok (.bipush 16, 2) := by decide +kernel
theorem d_Model_meet_27 : decode b_Model_meet 27 = .ok (.idiv, 1) := by decide +kernel
theorem d_Model_meet_28 : decode b_Model_meet 28 = .ok (.iadd, 1) := by decide +kernel
theorem d_Model_meet_29 : decode b_Model_meet 29 = .ok (.if_icmp .gt 7, 3) := by decide +kernel
theorem d_Model_meet_32 : decode b_Model_meet 32 = .ok (.iconst 1, 1) := by decide +kernel
theorem d_Model_meet_33 : decode b_Model_meet 33 = .ok (.goto 4, 3) := by decide +kernel
theorem d_Model_meet_36 : decode b_Model_meet 36 = .ok (.iconst 0, 1) := by decide +kernel
theorem d_Model_meet_37 : decode b_Model_meet 37 = .ok (.ireturn, 1) := by decide +kernel
theorem s_Model_meet : Cond.static y_Model_meet ∈ nm_Ts ∧ Cond.initialized y_Model_meet.cls ∈ nm_Ts ∧ Cond.code y_Model_meet b_Model_meet 2 (some .boolean) ∈ nm_Ts ∧ mz_cl1 y_Model_meet 2 := ⟨nm_t5 45 rfl rfl, nm_t1 12 rfl rfl, nm_t5 46 rfl rfl, by decide +kernel⟩
def y_Model_numberOf : MethodName := ⟨"CardOfficeModel", "numberOf", "(II)I"⟩
abbrev b_Model_numberOf : ByteArray := prog_14_method_41_code
def r_Model_numberOf (c s : Nat) : Room := { frames := 1, cells := c, slots := s, locals := 22 }
theorem d_Model_numberOf_0 : decode b_Model_numberOf 0 = .ok (.iconst 0, 1) := by decide +kernel
theorem d_Model_numberOf_1 : decode b_Model_numberOf 1 = .ok (.istore_n 3, 1) := by decide +kernel
theorem d_Model_numberOf_2 : decode b_Model_numberOf 2 = .ok (.iload_n 2, 1) := by decide +kernel
theorem d_Model_numberOf_3 : decode b_Model_numberOf 3 = .ok (.bipush 16, 2) := by decide +kernel
theorem d_Model_numberOf_5 : decode b_Model_numberOf 5 = .ok (.irem, 1) := by decide +kernel
theorem d_Model_numberOf_6 : decode b_Model_numberOf 6 = .ok (.istore 4, 2) := by decide +kernel
theorem d_Model_numberOf_8 : decode b_Model_numberOf 8 = .ok (.iload 4, 2) := by decide +kernel
theorem d_Model_numberOf_10 : decode b_Model_numberOf 10 = .ok (.iload_n 2, 1) := by decide +kernel
theorem d_Model_numberOf_11 : decode b_Model_numberOf 11 = .ok (.bipush 16, 2) := by decide +kernel
theorem d_Model_numberOf_13 : decode b_Model_numberOf 13 = .ok (.irem, 1) := by decide +kernel
theorem d_Model_numberOf_14 : decode b_Model_numberOf 14 = .ok (.iload_n 2, 1) := by decide +kernel
theorem d_Model_numberOf_15 : decode b_Model_numberOf 15 = .ok (.bipush 16, 2) := by decide +kernel
theorem d_Model_numberOf_17 : decode b_Model_numberOf 17 = .ok (.idiv, 1) := by decide +kernel
theorem d_Model_numberOf_18 : decode b_Model_numberOf 18 = .ok (.iadd, 1) := by decide +kernel
theorem d_Model_numberOf_19 : decode b_Model_numberOf 19 = .ok (.if_icmp .gt 68, 3) := by decide +kernel
theorem d_Model_numberOf_22 : decode b_Model_numberOf 22 = .ok (.aload_n 0, 1) := by decide +kernel
theorem d_Model_numberOf_23 : decode b_Model_numberOf 23 = .ok (.iload_n 1, 1) := by decide +kernel
theorem d_Model_numberOf_24 : decode b_Model_numberOf 24 = .ok (.iload 4, 2) := by decide +kernel
theorem d_Model_numberOf_26 : decode b_Model_numberOf 26 = .ok (.invokevirtual 91, 3) := by decide +kernel
theorem d_Model_numberOf_29 : decode b_Model_numberOf 29 = .ok (.istore 5, 2) := by decide +kernel
theorem d_Model_numberOf_31 : decode b_Model_numberOf 31 = .ok (.iload 5, 2) := by decide +kernel
theorem d_Model_numberOf_33 : decode b_Model_numberOf 33 = .ok (.bipush 32, 2) := by decide +kernel
theorem d_Model_numberOf_35 : decode b_Model_numberOf 35 = .ok (.if_icmp .ne 7, 3) := by decide +kernel
theorem d_Model_numberOf_38 : decode b_Model_numberOf 38 = .ok (.iconst 0, 1) := by decide +kernel
theorem d_Model_numberOf_39 : decode b_Model_numberOf 39 = .ok (.goto 19, 3) := by decide +kernel
theorem d_Model_numberOf_42 : decode b_Model_numberOf 42 = .ok (.iload 5, 2) := by decide +kernel
theorem d_Model_numberOf_44 : decode b_Model_numberOf 44 = .ok (.bipush 65, 2) := by decide +kernel
theorem d_Model_numberOf_46 : decode b_Model_numberOf 46 = .ok (.if_icmp .ge 11, 3) := by decide +kernel
theorem d_Model_numberOf_49 : decode b_Model_numberOf 49 = .ok (.iload 5, 2) := by decide +kernel
theorem d_Model_numberOf_51 : decode b_Model_numberOf 51 = .ok (.bipush 48, 2) := by decide +kernel
theorem d_Model_numberOf_53 : decode b_Model_numberOf 53 = .ok (.isub, 1) := by decide +kernel
theorem d_Model_numberOf_54 : decode b_Model_numberOf 54 = .ok (.goto 4, 3) := by decide +kernel
theorem d_Model_numberOf_57 : decode b_Model_numberOf 57 = .ok (.iconst (-1), 1) := by decide +kernel
theorem d_Model_numberOf_58 : decode b_Model_numberOf 58 = .ok (.istore 6, 2) := by decide +kernel
theorem d_Model_numberOf_60 : decode b_Model_numberOf 60 = .ok (.iload_n 3, 1) := by decide +kernel
theorem d_Model_numberOf_61 : decode b_Model_numberOf 61 = .ok (.ifCond .lt 8, 3) := by decide +kernel
theorem d_Model_numberOf_64 : decode b_Model_numberOf 64 = .ok (.iload 6, 2) := by decide +kernel
theorem d_Model_numberOf_66 : decode b_Model_numberOf 66 = .ok (.ifCond .ge 7, 3) := by decide +kernel
theorem d_Model_numberOf_69 : decode b_Model_numberOf 69 = .ok (.iconst (-1), 1) := by decide +kernel
theorem d_Model_numberOf_70 : decode b_Model_numberOf 70 = .ok (.goto 10, 3) := by decide +kernel
theorem d_Model_numberOf_73 : decode b_Model_numberOf 73 = .ok (.bipush 10, 2) := by decide +kernel
theorem d_Model_numberOf_75 : decode b_Model_numberOf 75 = .ok (.iload_n 3, 1) := by decide +kernel
theorem d_Model_numberOf_76 : decode b_Model_numberOf 76 = .ok (.imul, 1) := by decide +kernel
theorem d_Model_numberOf_77 : decode b_Model_numberOf 77 = .ok (.iload 6, 2) := by decide +kernel
theorem d_Model_numberOf_79 : decode b_Model_numberOf 79 = .ok (.iadd, 1) := by decide +kernel
theorem d_Model_numberOf_80 : decode b_Model_numberOf 80 = .ok (.istore_n 3, 1) := by decide +kernel
theorem d_Model_numberOf_81 : decode b_Model_numberOf 81 = .ok (.iinc 4 1, 3) := by decide +kernel
theorem d_Model_numberOf_84 : decode b_Model_numberOf 84 = .ok (.goto (-76), 3) := by decide +kernel
theorem d_Model_numberOf_87 : decode b_Model_numberOf 87 = .ok (.iload_n 3, 1) := by decide +kernel
theorem d_Model_numberOf_88 : decode b_Model_numberOf 88 = .ok (.ireturn, 1) := by decide +kernel
theorem v_Model_numberOf : Cond.instanceMethod y_Model_numberOf ∈ nm_Ts ∧ Cond.selects y_Model_numberOf.cls y_Model_numberOf y_Model_numberOf ∈ nm_Ts ∧ Cond.initialized y_Model_numberOf.cls ∈ nm_Ts ∧ Cond.code y_Model_numberOf b_Model_numberOf 7 (some .int) ∈ nm_Ts ∧ mz_cl1 y_Model_numberOf 2 := ⟨nm_t5 49 rfl rfl, nm_s 35 rfl rfl, nm_t1 12 rfl rfl, nm_t5 50 rfl rfl, by decide +kernel⟩
def y_Model_tenTo : MethodName := ⟨"CardOfficeModel", "tenTo", "(I)J"⟩
abbrev b_Model_tenTo : ByteArray := prog_14_method_43_code
def r_Model_tenTo (c s : Nat) : Room := { frames := 0, cells := c, slots := s, locals := 0 }
theorem d_Model_tenTo_0 : decode b_Model_tenTo 0 = .ok (.lconst 1, 1) := by decide +kernel
theorem d_Model_tenTo_1 : decode b_Model_tenTo 1 = .ok (.lstore_n 1, 1) := by decide +kernel
theorem d_Model_tenTo_2 : decode b_Model_tenTo 2 = .ok (.iconst 0, 1) := by decide +kernel
theorem d_Model_tenTo_3 : decode b_Model_tenTo 3 = .ok (.istore_n 3, 1) := by decide +kernel
theorem d_Model_tenTo_4 : decode b_Model_tenTo 4 = .ok (.iload_n 3, 1) := by decide +kernel
theorem d_Model_tenTo_5 : decode b_Model_tenTo 5 = .ok (.iload_n 0, 1) := by decide +kernel
theorem d_Model_tenTo_6 : decode b_Model_tenTo 6 = .ok (.if_icmp .ge 15, 3) := by decide +kernel
theorem d_Model_tenTo_9 : decode b_Model_tenTo 9 = .ok (.ldc2_w 161, 3) := by decide +kernel
theorem d_Model_tenTo_12 : decode b_Model_tenTo 12 = .ok (.lload_n 1, 1) := by decide +kernel
theorem d_Model_tenTo_13 : decode b_Model_tenTo 13 = .ok (.lmul, 1) := by decide +kernel
theorem d_Model_tenTo_14 : decode b_Model_tenTo 14 = .ok (.lstore_n 1, 1) := by decide +kernel
theorem d_Model_tenTo_15 : decode b_Model_tenTo 15 = .ok (.iinc 3 1, 3) := by decide +kernel
theorem d_Model_tenTo_18 : decode b_Model_tenTo 18 = .ok (.goto (-14), 3) := by decide +kernel
theorem d_Model_tenTo_21 : decode b_Model_tenTo 21 = .ok (.lload_n 1, 1) := by decide +kernel
theorem d_Model_tenTo_22 : decode b_Model_tenTo 22 = .ok (.lreturn, 1) := by decide +kernel
theorem d_Model_tenTo : decode b_Model_tenTo 0 = .ok (.lconst 1, 1) ∧ decode b_Model_tenTo 1 = .ok (.lstore_n 1, 1) ∧ decode b_Model_tenTo 2 = .ok (.iconst 0, 1) ∧ decode b_Model_tenTo 3 = .ok (.istore_n 3, 1) ∧ decode b_Model_tenTo 4 = .ok (.iload_n 3, 1) ∧ decode b_Model_tenTo 5 = .ok (.iload_n 0, 1) ∧ decode b_Model_tenTo 6 = .ok (.if_icmp .ge 15, 3) ∧ decode b_Model_tenTo 9 = .ok (.ldc2_w 161, 3) ∧ decode b_Model_tenTo 12 = .ok (.lload_n 1, 1) ∧ decode b_Model_tenTo 13 = .ok (.lmul, 1) ∧ decode b_Model_tenTo 14 = .ok (.lstore_n 1, 1) ∧ decode b_Model_tenTo 15 = .ok (.iinc 3 1, 3) ∧ decode b_Model_tenTo 18 = .ok (.goto (-14), 3) ∧ decode b_Model_tenTo 21 = .ok (.lload_n 1, 1) ∧ decode b_Model_tenTo 22 = .ok (.lreturn, 1) := ⟨d_Model_tenTo_0, d_Model_tenTo_1, d_Model_tenTo_2, d_Model_tenTo_3, d_Model_tenTo_4, d_Model_tenTo_5, d_Model_tenTo_6, d_Model_tenTo_9, d_Model_tenTo_12, d_Model_tenTo_13, d_Model_tenTo_14, d_Model_tenTo_15, d_Model_tenTo_18, d_Model_tenTo_21, d_Model_tenTo_22⟩
theorem s_Model_tenTo : Cond.static y_Model_tenTo ∈ nm_Ts ∧ Cond.initialized y_Model_tenTo.cls ∈ nm_Ts ∧ Cond.code y_Model_tenTo b_Model_tenTo 4 (some .long) ∈ nm_Ts ∧ mz_cl1 y_Model_tenTo 1 := ⟨nm_t5 54 rfl rfl, nm_t1 12 rfl rfl, nm_t5 55 rfl rfl, by decide +kernel⟩
def y_Model_punches : MethodName := ⟨"CardOfficeModel", "punches", "(IIJZ)Z"⟩
abbrev b_Model_punches : ByteArray := prog_14_method_42_code
def r_Model_punches (c s : Nat) : Room := { frames := 1, cells := c, slots := s, locals := 22 }
theorem d_Model_punches_0 : decode b_Model_punches 0 = .ok (.lload_n 3, 1) := by decide +kernel
theorem d_Model_punches_1 : decode b_Model_punches 1 = .ok (.lstore 6, 2) := by decide +kernel
theorem d_Model_punches_3 : decode b_Model_punches 3 = .ok (.iconst 1, 1) := by decide +kernel
theorem d_Model_punches_4 : decode b_Model_punches 4 = .ok (.istore 8, 2) := by decide +kernel
theorem d_Model_punches_6 : decode b_Model_punches 6 = .ok (.iload_n 2, 1) := by decide +kernel
theorem d_Model_punches_7 : decode b_Model_punches 7 = .ok (.bipush 16, 2) := by decide +kernel
theorem d_Model_punches_9 : decode b_Model_punches 9 = .ok (.irem, 1) := by decide +kernel
theorem d_Model_punches_10 : decode b_Model_punches 10 = .ok (.iload_n 2, 1) := by decide +kernel
theorem d_Model_punches_11 : decode b_Model_punches 11 = .ok (.bipush 16, 2) := by decide +kernel
theorem d_Model_punches_13 : decode b_Model_punches 13 = .ok (.idiv, 1) := by decide +kernel
theorem d_Model_punches_14 : decode b_Model_punches 14 = .ok (.iadd, 1) := by decide +kernel
theorem d_Model_punches_15 : decode b_Model_punches 15 = .ok (.istore 9, 2) := by decide +kernel
theorem d_Model_punches_17 : decode b_Model_punches 17 = .ok (.iload 9, 2) := by decide +kernel
theorem d_Model_punches_19 : decode b_Model_punches 19 = .ok (.iload_n 2, 1) := by decide +kernel
theorem d_Model_punches_20 : decode b_Model_punches 20 = .ok (.bipush 16, 2) := by decide +kernel
theorem d_Model_punches_22 : decode b_Model_punches 22 = .ok (.irem, 1) := by decide +kernel
theorem d_Model_punches_23 : decode b_Model_punches 23 = .ok (.if_icmp .lt 85, 3) := by decide +kernel
theorem d_Model_punches_26 : decode b_Model_punches 26 = .ok (.bipush 48, 2) := by decide +kernel
theorem d_Model_punches_28 : decode b_Model_punches 28 = .ok (.lload 6, 2) := by decide +kernel
theorem d_Model_punches_30 : decode b_Model_punches 30 = .ok (.ldc2_w 161, 3) := by decide +kernel
theorem d_Model_punches_33 : decode b_Model_punches 33 = .ok (.lrem, 1) := by decide +kernel
theorem d_Model_punches_34 : decode b_Model_punches 34 = .ok (.l2i, 1) := by decide +kernel
theorem d_Model_punches_35 : decode b_Model_punches 35 = .ok (.iadd, 1) := by decide +kernel
theorem d_Model_punches_36 : decode b_Model_punches 36 = .ok (.istore 10, 2) := by decide +kernel
theorem d_Model_punches_38 : decode b_Model_punches 38 = .ok (.lload 6, 2) := by decide +kernel
theorem d_Model_punches_40 : decode b_Model_punches 40 = .ok (.ldc2_w 161, 3) := by decide +kernel
theorem d_Model_punches_43 : decode b_Model_punches 43 = .ok (.ldiv, 1) := by decide +kernel
theorem d_Model_punches_44 : decode b_Model_punches 44 = .ok (.lstore 6, 2) := by decide +kernel
theorem d_Model_punches_46 : decode b_Model_punches 46 = .ok (.iload 8, 2) := by decide +kernel
theorem d_Model_punches_48 : decode b_Model_punches 48 = .ok (.ifCond .eq 31, 3) := by decide +kernel
theorem d_Model_punches_51 : decode b_Model_punches 51 = .ok (.aload_n 0, 1) := by decide +kernel
theorem d_Model_punches_52 : decode b_Model_punches 52 = .ok (.iload_n 1, 1) := by decide +kernel
theorem d_Model_punches_53 : decode b_Model_punches 53 = .ok (.iload 9, 2) := by decide +kernel
theorem d_Model_punches_55 : decode b_Model_punches 55 = .ok (.invokevirtual 91, 3) := by decide +kernel
theorem d_Model_punches_58 : decode b_Model_punches 58 = .ok (.bipush 32, 2) := by decide +kernel
theorem d_Model_punches_60 : decode b_Model_punches 60 = .ok (.if_icmp .eq 15, 3) := by decide +kernel
theorem d_Model_punches_63 : decode b_Model_punches 63 = .ok (.aload_n 0, 1) := by decide +kernel
theorem d_Model_punches_64 : decode b_Model_punches 64 = .ok (.iload_n 1, 1) := by decide +kernel
theorem d_Model_punches_65 : decode b_Model_punches 65 = .ok (.iload 9, 2) := by decide +kernel
theorem d_Model_punches_67 : decode b_Model_punches 67 = .ok (.invokevirtual 91, 3) := by decide +kernel
theorem d_Model_punches_70 : decode b_Model_punches 70 = .ok (.iload 10, 2) := by decide +kernel
theorem d_Model_punches_72 : decode b_Model_punches 72 = .ok (.if_icmp .ne 7, 3) := by decide +kernel
theorem d_Model_punches_75 : decode b_Model_punches 75 = .ok (.iconst 1, 1) := by decide +kernel
theorem d_Model_punches_76 : decode b_Model_punches 76 = .ok (.goto 4, 3) := by decide +kernel
theorem d_Model_punches_79 : decode b_Model_punches 79 = .ok (.iconst 0, 1) := by decide +kernel
theorem d_Model_punches_80 : decode b_Model_punches 80 = .ok (.istore 8, 2) := by decide +kernel
theorem d_Model_punches_82 : decode b_Model_punches 82 = .ok (.iload 5, 2) := by decide +kernel
theorem d_Model_punches_84 : decode b_Model_punches 84 = .ok (.ifCond .eq 18, 3) := by decide +kernel
theorem d_Model_punches_87 : decode b_Model_punches 87 = .ok (.aload_n 0, 1) := by decide +kernel
theorem d_Model_punches_88 : decode b_Model_punches 88 = .ok (.getfield 7, 3) := by decide +kernel
theorem d_Model_punches_91 : decode b_Model_punches 91 = .ok (.bipush 16, 2) := by decide +kernel
theorem d_Model_punches_93 : decode b_Model_punches 93 = .ok (.iload_n 1, 1) := by decide +kernel
theorem d_Model_punches_94 : decode b_Model_punches 94 = .ok (.imul, 1) := by decide +kernel
theorem d_Model_punches_95 : decode b_Model_punches 95 = .ok (.iload 9, 2) := by decide +kernel
theorem d_Model_punches_97 : decode b_Model_punches 97 = .ok (.iadd, 1) := by decide +kernel
theorem d_Model_punches_98 : decode b_Model_punches 98 = .ok (.iload 10, 2) := by decide +kernel
theorem d_Model_punches_100 : decode b_Model_punches 100 = .ok (.i2b, 1) := by decide +kernel
theorem d_Model_punches_101 : decode b_Model_punches 101 = .ok (.bastore, 1) := by decide +kernel
theorem d_Model_punches_102 : decode b_Model_punches 102 = .ok (.iinc 9 (-1), 3) := by decide +kernel
theorem d_Model_punches_105 : decode b_Model_punches 105 = .ok (.goto (-88), 3) := by decide +kernel
theorem d_Model_punches_108 : decode b_Model_punches 108 = .ok (.iload 8, 2) := by decide +kernel
theorem d_Model_punches_110 : decode b_Model_punches 110 = .ok (.ireturn, 1) := by decide +kernel
theorem v_Model_punches : Cond.instanceMethod y_Model_punches ∈ nm_Ts ∧ Cond.selects y_Model_punches.cls y_Model_punches y_Model_punches ∈ nm_Ts ∧ Cond.initialized y_Model_punches.cls ∈ nm_Ts ∧ Cond.code y_Model_punches b_Model_punches 11 (some .boolean) ∈ nm_Ts ∧ mz_cl1 y_Model_punches 4 := ⟨nm_t5 58 rfl rfl, nm_s 36 rfl rfl, nm_t1 12 rfl rfl, nm_t5 59 rfl rfl, by decide +kernel⟩
def y_Model_tabulate : MethodName := ⟨"CardOfficeModel", "tabulate", "(II)I"⟩
abbrev b_Model_tabulate : ByteArray := prog_14_method_57_code
def r_Model_tabulate (c s : Nat) : Room := { frames := 5, cells := c, slots := s, locals := 128 }
theorem d_Model_tabulate_0 : decode b_Model_tabulate 0 = .ok (.aload_n 0, 1) := by decide +kernel
theorem d_Model_tabulate_1 : decode b_Model_tabulate 1 = .ok (.iload_n 1, 1) := by decide +kernel
theorem d_Model_tabulate_2 : decode b_Model_tabulate 2 = .ok (.invokestatic 82, 3) := by decide +kernel
theorem d_Model_tabulate_5 : decode b_Model_tabulate 5 = .ok (.ifCond .eq 14, 3) := by decide +kernel
theorem d_Model_tabulate_8 : decode b_Model_tabulate 8 = .ok (.iload_n 2, 1) := by decide +kernel
theorem d_Model_tabulate_9 : decode b_Model_tabulate 9 = .ok (.invokestatic 65, 3) := by decide +kernel
theorem d_Model_tabulate_12 : decode b_Model_tabulate 12 = .ok (.ifCond .eq 7, 3) := by decide +kernel
theorem d_Model_tabulate_15 : decode b_Model_tabulate 15 = .ok (.iconst 0, 1) := by decide +kernel
theorem d_Model_tabulate_16 : decode b_Model_tabulate 16 = .ok (.goto 4, 3) := by decide +kernel
theorem d_Model_tabulate_19 : decode b_Model_tabulate 19 = .ok (.iconst 1, 1) := by decide +kernel
theorem d_Model_tabulate_20 : decode b_Model_tabulate 20 = .ok (.putfield 52, 3) := by decide +kernel
theorem d_Model_tabulate_23 : decode b_Model_tabulate 23 = .ok (.aload_n 0, 1) := by decide +kernel
theorem d_Model_tabulate_24 : decode b_Model_tabulate 24 = .ok (.getfield 52, 3) := by decide +kernel
theorem d_Model_tabulate_27 : decode b_Model_tabulate 27 = .ok (.ifCond .le 5, 3) := by decide +kernel
theorem d_Model_tabulate_30 : decode b_Model_tabulate 30 = .ok (.iconst 0, 1) := by decide +kernel
theorem d_Model_tabulate_31 : decode b_Model_tabulate 31 = .ok (.ireturn, 1) := by decide +kernel
theorem d_Model_tabulate_32 : decode b_Model_tabulate 32 = .ok (.iconst 0, 1) := by decide +kernel
theorem d_Model_tabulate_33 : decode b_Model_tabulate 33 = .ok (.istore_n 3, 1) := by decide +kernel
theorem d_Model_tabulate_34 : decode b_Model_tabulate 34 = .ok (.iload_n 3, 1) := by decide +kernel
theorem d_Model_tabulate_35 : decode b_Model_tabulate 35 = .ok (.iconst 4, 1) := by decide +kernel
theorem d_Model_tabulate_36 : decode b_Model_tabulate 36 = .ok (.if_icmp .ge 16, 3) := by decide +kernel
theorem d_Model_tabulate_39 : decode b_Model_tabulate 39 = .ok (.aload_n 0, 1) := by decide +kernel
theorem d_Model_tabulate_40 : decode b_Model_tabulate 40 = .ok (.getfield 39, 3) := by decide +kernel
theorem d_Model_tabulate_43 : decode b_Model_tabulate 43 = .ok (.iload_n 3, 1) := by decide +kernel
theorem d_Model_tabulate_44 : decode b_Model_tabulate 44 = .ok (.iconst 0, 1) := by decide +kernel
theorem d_Model_tabulate_45 : decode b_Model_tabulate 45 = .ok (.iastore, 1) := by decide +kernel
theorem d_Model_tabulate_46 : decode b_Model_tabulate 46 = .ok (.iinc 3 1, 3) := by decide +kernel
theorem d_Model_tabulate_49 : decode b_Model_tabulate 49 = .ok (.goto (-15), 3) := by decide +kernel
theorem d_Model_tabulate_52 : decode b_Model_tabulate 52 = .ok (.aload_n 0, 1) := by decide +kernel
theorem d_Model_tabulate_53 : decode b_Model_tabulate 53 = .ok (.getfield 17, 3) := by decide +kernel
theorem d_Model_tabulate_56 : decode b_Model_tabulate 56 = .ok (.iload_n 2, 1) := by decide +kernel
theorem d_Model_tabulate_57 : decode b_Model_tabulate 57 = .ok (.iaload, 1) := by decide +kernel
theorem d_Model_tabulate_58 : decode b_Model_tabulate 58 = .ok (.istore_n 3, 1) := by decide +kernel
theorem d_Model_tabulate_59 : decode b_Model_tabulate 59 = .ok (.iconst 0, 1) := by decide +kernel
theorem d_Model_tabulate_60 : decode b_Model_tabulate 60 = .ok (.istore 4, 2) := by decide +kernel
theorem d_Model_tabulate_62 : decode b_Model_tabulate 62 = .ok (.iload 4, 2) := by decide +kernel
theorem d_Model_tabulate_64 : decode b_Model_tabulate 64 = .ok (.iload_n 3, 1) := by decide +kernel
theorem d_Model_tabulate_65 : decode b_Model_tabulate 65 = .ok (.if_icmp .ge 113, 3) := by decide +kernel
theorem d_Model_tabulate_68 : decode b_Model_tabulate 68 = .ok (.iconst 0, 1) := by decide +kernel
theorem d_Model_tabulate_69 : decode b_Model_tabulate 69 = .ok (.istore 5, 2) := by decide +kernel
theorem d_Model_tabulate_71 : decode b_Model_tabulate 71 = .ok (.iconst 0, 1) := by decide +kernel
theorem d_Model_tabulate_72 : decode b_Model_tabulate 72 = .ok (.istore 6, 2) := by decide +kernel
theorem d_Model_tabulate_74 : decode b_Model_tabulate 74 = .ok (.iload 6, 2) := by decide +kernel
theorem d_Model_tabulate_76 : decode b_Model_tabulate 76 = .ok (.iconst 3, 1) := by decide +kernel
theorem d_Model_tabulate_77 : decode b_Model_tabulate 77 = .ok (.if_icmp .ge 51, 3) := by decide +kernel
theorem d_Model_tabulate_80 : decode b_Model_tabulate 80 = .ok (.iload 4, 2) := by decide +kernel
theorem d_Model_tabulate_82 : decode b_Model_tabulate 82 = .ok (.ifCond .le 46, 3) := by decide +kernel
theorem d_Model_tabulate_85 : decode b_Model_tabulate 85 = .ok (.aload_n 0, 1) := by decide +kernel
theorem d_Model_tabulate_86 : decode b_Model_tabulate 86 = .ok (.iload_n 1, 1) := by decide +kernel
theorem d_Model_tabulate_87 : decode b_Model_tabulate 87 = .ok (.iload 6, 2) := by decide +kernel
theorem d_Model_tabulate_89 : decode b_Model_tabulate 89 = .ok (.aload_n 0, 1) := by decide +kernel
theorem d_Model_tabulate_90 : decode b_Model_tabulate 90 = .ok (.iload_n 2, 1) := by decide +kernel
theorem d_Model_tabulate_91 : decode b_Model_tabulate 91 = .ok (.iload 4, 2) := by decide +kernel
theorem d_Model_tabulate_93 : decode b_Model_tabulate 93 = .ok (.iconst 1, 1) := by decide +kernel
theorem d_Model_tabulate_94 : decode b_Model_tabulate 94 = .ok (.isub, 1) := by decide +kernel
theorem d_Model_tabulate_95 : decode b_Model_tabulate 95 = .ok (.invokevirtual 98, 3) := by decide +kernel
theorem d_Model_tabulate_98 : decode b_Model_tabulate 98 = .ok (.aload_n 0, 1) := by decide +kernel
theorem d_Model_tabulate_99 : decode b_Model_tabulate 99 = .ok (.iload_n 2, 1) := by decide +kernel
theorem d_Model_tabulate_100 : decode b_Model_tabulate 100 = .ok (.iload 4, 2) := by decide +kernel
theorem d_Model_tabulate_102 : decode b_Model_tabulate 102 = .ok (.invokevirtual 98, 3) := by decide +kernel
theorem d_Model_tabulate_105 : decode b_Model_tabulate 105 = .ok (.invokevirtual 210, 3) := by decide +kernel
theorem d_Model_tabulate_108 : decode b_Model_tabulate 108 = .ok (.ifCond .eq 10, 3) := by decide +kernel
theorem d_Model_tabulate_111 : decode b_Model_tabulate 111 = .ok (.iload 6, 2) := by decide +kernel
theorem d_Model_tabulate_113 : decode b_Model_tabulate 113 = .ok (.iconst 1, 1) := by decide +kernel
theorem d_Model_tabulate_114 : decode b_Model_tabulate 114 = .ok (.iadd, 1) := by decide +kernel
theorem d_Model_tabulate_115 : decode b_Model_tabulate 115 = .ok (.goto 5, 3) := by decide +kernel
theorem d_Model_tabulate_118 : decode b_Model_tabulate 118 = .ok (.iload 5, 2) := by decide +kernel
theorem d_Model_tabulate_120 : decode b_Model_tabulate 120 = .ok (.istore 5, 2) := by decide +kernel
theorem d_Model_tabulate_122 : decode b_Model_tabulate 122 = .ok (.iinc 6 1, 3) := by decide +kernel
theorem d_Model_tabulate_125 : decode b_Model_tabulate 125 = .ok (.goto (-51), 3) := by decide +kernel
theorem d_Model_tabulate_128 : decode b_Model_tabulate 128 = .ok (.aload_n 0, 1) := by decide +kernel
theorem d_Model_tabulate_129 : decode b_Model_tabulate 129 = .ok (.iload_n 1, 1) := by decide +kernel
theorem d_Model_tabulate_130 : decode b_Model_tabulate 130 = .ok (.aload_n 0, 1) := by decide +kernel
theorem d_Model_tabulate_131 : decode b_Model_tabulate 131 = .ok (.iload_n 2, 1) := by decide +kernel
theorem d_Model_tabulate_132 : decode b_Model_tabulate 132 = .ok (.iload 4, 2) := by decide +kernel
theorem d_Model_tabulate_134 : decode b_Model_tabulate 134 = .ok (.invokevirtual 98, 3) := by decide +kernel
theorem d_Model_tabulate_137 : decode b_Model_tabulate 137 = .ok (.iload 5, 2) := by decide +kernel
theorem d_Model_tabulate_139 : decode b_Model_tabulate 139 = .ok (.invokevirtual 213, 3) := by decide +kernel
theorem d_Model_tabulate_142 : decode b_Model_tabulate 142 = .ok (.istore 6, 2) := by decide +kernel
theorem d_Model_tabulate_144 : decode b_Model_tabulate 144 = .ok (.iload 6, 2) := by decide +kernel
theorem d_Model_tabulate_146 : decode b_Model_tabulate 146 = .ok (.ifCond .le 12, 3) := by decide +kernel
theorem d_Model_tabulate_149 : decode b_Model_tabulate 149 = .ok (.aload_n 0, 1) := by decide +kernel
theorem d_Model_tabulate_150 : decode b_Model_tabulate 150 = .ok (.iload 6, 2) := by decide +kernel
theorem d_Model_tabulate_152 : decode b_Model_tabulate 152 = .ok (.iload 4, 2) := by decide +kernel
theorem d_Model_tabulate_154 : decode b_Model_tabulate 154 = .ok (.invokevirtual 155, 3) := by decide +kernel
theorem d_Model_tabulate_157 : decode b_Model_tabulate 157 = .ok (.ireturn, 1) := by decide +kernel
theorem d_Model_tabulate_158 : decode b_Model_tabulate 158 = .ok (.aload_n 0, 1) := by decide +kernel
theorem d_Model_tabulate_159 : decode b_Model_tabulate 159 = .ok (.iload_n 1, 1) := by decide +kernel
theorem d_Model_tabulate_160 : decode b_Model_tabulate 160 = .ok (.aload_n 0, 1) := by decide +kernel
theorem d_Model_tabulate_161 : decode b_Model_tabulate 161 = .ok (.iload_n 2, 1) := by decide +kernel
theorem d_Model_tabulate_162 : decode b_Model_tabulate 162 = .ok (.iload 4, 2) := by decide +kernel
theorem d_Model_tabulate_164 : decode b_Model_tabulate 164 = .ok (.invokevirtual 98, 3) := by decide +kernel
theorem d_Model_tabulate_167 : decode b_Model_tabulate 167 = .ok (.iload 5, 2) := by decide +kernel
theorem d_Model_tabulate_169 : decode b_Model_tabulate 169 = .ok (.invokevirtual 216, 3) := by decide +kernel
theorem d_Model_tabulate_172 : decode b_Model_tabulate 172 = .ok (.iinc 4 1, 3) := by decide +kernel
theorem d_Model_tabulate_175 : decode b_Model_tabulate 175 = .ok (.goto (-113), 3) := by decide +kernel
theorem d_Model_tabulate_178 : decode b_Model_tabulate 178 = .ok (.iload_n 3, 1) := by decide +kernel
theorem d_Model_tabulate_179 : decode b_Model_tabulate 179 = .ok (.ifCond .le 11, 3) := by decide +kernel
theorem d_Model_tabulate_182 : decode b_Model_tabulate 182 = .ok (.aload_n 0, 1) := by decide +kernel
theorem d_Model_tabulate_183 : decode b_Model_tabulate 183 = .ok (.iload_n 1, 1) := by decide +kernel
theorem d_Model_tabulate_184 : decode b_Model_tabulate 184 = .ok (.invokevirtual 220, 3) := by decide +kernel
theorem d_Model_tabulate_187 : decode b_Model_tabulate 187 = .ok (.goto 4, 3) := by decide +kernel
theorem d_Model_tabulate_190 : decode b_Model_tabulate 190 = .ok (.iconst 0, 1) := by decide +kernel
theorem d_Model_tabulate_191 : decode b_Model_tabulate 191 = .ok (.istore 4, 2) := by decide +kernel
theorem d_Model_tabulate_193 : decode b_Model_tabulate 193 = .ok (.iload 4, 2) := by decide +kernel
theorem d_Model_tabulate_195 : decode b_Model_tabulate 195 = .ok (.ifCond .le 11, 3) := by decide +kernel
theorem d_Model_tabulate_198 : decode b_Model_tabulate 198 = .ok (.aload_n 0, 1) := by decide +kernel
theorem d_Model_tabulate_199 : decode b_Model_tabulate 199 = .ok (.iload 4, 2) := by decide +kernel
theorem d_Model_tabulate_201 : decode b_Model_tabulate 201 = .ok (.iload_n 3, 1) := by decide +kernel
theorem d_Model_tabulate_202 : decode b_Model_tabulate 202 = .ok (.invokevirtual 155, 3) := by decide +kernel
theorem d_Model_tabulate_205 : decode b_Model_tabulate 205 = .ok (.ireturn, 1) := by decide +kernel
theorem d_Model_tabulate_206 : decode b_Model_tabulate 206 = .ok (.iconst 0, 1) := by decide +kernel
theorem d_Model_tabulate_207 : decode b_Model_tabulate 207 = .ok (.istore 5, 2) := by decide +kernel
theorem d_Model_tabulate_209 : decode b_Model_tabulate 209 = .ok (.iload 5, 2) := by decide +kernel
theorem d_Model_tabulate_211 : decode b_Model_tabulate 211 = .ok (.iconst 4, 1) := by decide +kernel
theorem d_Model_tabulate_212 : decode b_Model_tabulate 212 = .ok (.if_icmp .ge 20, 3) := by decide +kernel
theorem d_Model_tabulate_215 : decode b_Model_tabulate 215 = .ok (.iload_n 3, 1) := by decide +kernel
theorem d_Model_tabulate_216 : decode b_Model_tabulate 216 = .ok (.ifCond .le 16, 3) := by decide +kernel
theorem d_Model_tabulate_219 : decode b_Model_tabulate 219 = .ok (.aload_n 0, 1) := by decide +kernel
theorem d_Model_tabulate_220 : decode b_Model_tabulate 220 = .ok (.iload_n 1, 1) := by decide +kernel
theorem d_Model_tabulate_221 : decode b_Model_tabulate 221 = .ok (.iload 5, 2) := by decide +kernel
theorem d_Model_tabulate_223 : decode b_Model_tabulate 223 = .ok (.invokevirtual 207, 3) := by decide +kernel
theorem d_Model_tabulate_226 : decode b_Model_tabulate 226 = .ok (.iinc 5 1, 3) := by decide +kernel
theorem d_Model_tabulate_229 : decode b_Model_tabulate 229 = .ok (.goto (-20), 3) := by decide +kernel
theorem d_Model_tabulate_232 : decode b_Model_tabulate 232 = .ok (.aload_n 0, 1) := by decide +kernel
theorem d_Model_tabulate_233 : decode b_Model_tabulate 233 = .ok (.iconst 0, 1) := by decide +kernel
theorem d_Model_tabulate_234 : decode b_Model_tabulate 234 = .ok (.iconst (-1), 1) := by decide +kernel
theorem d_Model_tabulate_235 : decode b_Model_tabulate 235 = .ok (.invokevirtual 155, 3) := by decide +kernel
theorem d_Model_tabulate_238 : decode b_Model_tabulate 238 = .ok (.pop, 1) := by decide +kernel
theorem d_Model_tabulate_239 : decode b_Model_tabulate 239 = .ok (.iload_n 3, 1) := by decide +kernel
theorem d_Model_tabulate_240 : decode b_Model_tabulate 240 = .ok (.ireturn, 1) := by decide +kernel
theorem v_Model_tabulate : Cond.instanceMethod y_Model_tabulate ∈ nm_Ts ∧ Cond.selects y_Model_tabulate.cls y_Model_tabulate y_Model_tabulate ∈ nm_Ts ∧ Cond.initialized y_Model_tabulate.cls ∈ nm_Ts ∧ Cond.code y_Model_tabulate b_Model_tabulate 7 (some .int) ∈ nm_Ts ∧ mz_cl1 y_Model_tabulate 2 := ⟨nm_t5 61 rfl rfl, nm_t5 62 rfl rfl, nm_t1 12 rfl rfl, nm_t5 63 rfl rfl, by decide +kernel⟩
def y_Model_breaks : MethodName := ⟨"CardOfficeModel", "breaks", "(IIII)Z"⟩
abbrev b_Model_breaks : ByteArray := prog_14_method_45_code
def r_Model_breaks (c s : Nat) : Room := { frames := 1, cells := c, slots := s, locals := 22 }
theorem d_Model_breaks_0 : decode b_Model_breaks 0 = .ok (.iconst 0, 1) := by decide +kernel
theorem d_Model_breaks_1 : decode b_Model_breaks 1 = .ok (.istore 5, 2) := by decide +kernel
theorem d_Model_breaks_3 : decode b_Model_breaks 3 = .ok (.bipush 40, 2) := by decide +kernel
theorem d_Model_breaks_5 : decode b_Model_breaks 5 = .ok (.iload_n 1, 1) := by decide +kernel
theorem d_Model_breaks_6 : decode b_Model_breaks 6 = .ok (.imul, 1) := by decide +kernel
theorem d_Model_breaks_7 : decode b_Model_breaks 7 = .ok (.istore 6, 2) := by decide +kernel
theorem d_Model_breaks_9 : decode b_Model_breaks 9 = .ok (.iload 6, 2) := by decide +kernel
theorem d_Model_breaks_11 : decode b_Model_breaks 11 = .ok (.bipush 40, 2) := by decide +kernel
theorem d_Model_breaks_13 : decode b_Model_breaks 13 = .ok (.iload_n 1, 1) := by decide +kernel
theorem d_Model_breaks_14 : decode b_Model_breaks 14 = .ok (.imul, 1) := by decide +kernel
theorem d_Model_breaks_15 : decode b_Model_breaks 15 = .ok (.aload_n 0, 1) := by decide +kernel
theorem d_Model_breaks_16 : decode b_Model_breaks 16 = .ok (.getfield 33, 3) := by decide +kernel
theorem d_Model_breaks_19 : decode b_Model_breaks 19 = .ok (.iload_n 1, 1) := by decide +kernel
theorem d_Model_breaks_20 : decode b_Model_breaks 20 = .ok (.iaload, 1) := by decide +kernel
theorem d_Model_breaks_21 : decode b_Model_breaks 21 = .ok (.iadd, 1) := by decide +kernel
theorem d_Model_breaks_22 : decode b_Model_breaks 22 = .ok (.if_icmp .ge 116, 3) := by decide +kernel
theorem d_Model_breaks_25 : decode b_Model_breaks 25 = .ok (.aload_n 0, 1) := by decide +kernel
theorem d_Model_breaks_26 : decode b_Model_breaks 26 = .ok (.getfield 30, 3) := by decide +kernel
theorem d_Model_breaks_29 : decode b_Model_breaks 29 = .ok (.iload 6, 2) := by decide +kernel
theorem d_Model_breaks_31 : decode b_Model_breaks 31 = .ok (.baload, 1) := by decide +kernel
theorem d_Model_breaks_32 : decode b_Model_breaks 32 = .ok (.istore 7, 2) := by decide +kernel
theorem d_Model_breaks_34 : decode b_Model_breaks 34 = .ok (.iload 7, 2) := by decide +kernel
theorem d_Model_breaks_36 : decode b_Model_breaks 36 = .ok (.bipush 96, 2) := by decide +kernel
theorem d_Model_breaks_38 : decode b_Model_breaks 38 = .ok (.iload_n 2, 1) := by decide +kernel
theorem d_Model_breaks_39 : decode b_Model_breaks 39 = .ok (.iadd, 1) := by decide +kernel
theorem d_Model_breaks_40 : decode b_Model_breaks 40 = .ok (.if_icmp .lt 26, 3) := by decide +kernel
theorem d_Model_breaks_43 : decode b_Model_breaks 43 = .ok (.iload 7, 2) := by decide +kernel
theorem d_Model_breaks_45 : decode b_Model_breaks 45 = .ok (.bipush 99, 2) := by decide +kernel
theorem d_Model_breaks_47 : decode b_Model_breaks 47 = .ok (.if_icmp .ge 19, 3) := by decide +kernel
theorem d_Model_breaks_50 : decode b_Model_breaks 50 = .ok (.aload_n 0, 1) := by decide +kernel
theorem d_Model_breaks_51 : decode b_Model_breaks 51 = .ok (.getfield 27, 3) := by decide +kernel
theorem d_Model_breaks_54 : decode b_Model_breaks 54 = .ok (.iload 6, 2) := by decide +kernel
theorem d_Model_breaks_56 : decode b_Model_breaks 56 = .ok (.baload, 1) := by decide +kernel
theorem d_Model_breaks_57 : decode b_Model_breaks 57 = .ok (.bipush 16, 2) := by decide +kernel
theorem d_Model_breaks_59 : decode b_Model_breaks 59 = .ok (.if_icmp .ge 7, 3) := by decide +kernel
theorem d_Model_breaks_62 : decode b_Model_breaks 62 = .ok (.iconst 1, 1) := by decide +kernel
theorem d_Model_breaks_63 : decode b_Model_breaks 63 = .ok (.goto 4, 3) := by decide +kernel
theorem d_Model_breaks_66 : decode b_Model_breaks 66 = .ok (.iconst 0, 1) := by decide +kernel
theorem d_Model_breaks_67 : decode b_Model_breaks 67 = .ok (.istore 8, 2) := by decide +kernel
theorem d_Model_breaks_69 : decode b_Model_breaks 69 = .ok (.iload 5, 2) := by decide +kernel
theorem d_Model_breaks_71 : decode b_Model_breaks 71 = .ok (.ifCond .ne 54, 3) := by decide +kernel
theorem d_Model_breaks_74 : decode b_Model_breaks 74 = .ok (.iload 8, 2) := by decide +kernel
theorem d_Model_breaks_76 : decode b_Model_breaks 76 = .ok (.ifCond .eq 53, 3) := by decide +kernel
theorem d_Model_breaks_79 : decode b_Model_breaks 79 = .ok (.aload_n 0, 1) := by decide +kernel
theorem d_Model_breaks_80 : decode b_Model_breaks 80 = .ok (.iload_n 3, 1) := by decide +kernel
theorem d_Model_breaks_81 : decode b_Model_breaks 81 = .ok (.iload 8, 2) := by decide +kernel
theorem d_Model_breaks_83 : decode b_Model_breaks 83 = .ok (.ifCond .eq 13, 3) := by decide +kernel
theorem d_Model_breaks_86 : decode b_Model_breaks 86 = .ok (.aload_n 0, 1) := by decide +kernel
theorem d_Model_breaks_87 : decode b_Model_breaks 87 = .ok (.getfield 27, 3) := by decide +kernel
theorem d_Model_breaks_90 : decode b_Model_breaks 90 = .ok (.iload 6, 2) := by decide +kernel
theorem d_Model_breaks_92 : decode b_Model_breaks 92 = .ok (.baload, 1) := by decide +kernel
theorem d_Model_breaks_93 : decode b_Model_breaks 93 = .ok (.goto 4, 3) := by decide +kernel
theorem d_Model_breaks_96 : decode b_Model_breaks 96 = .ok (.iconst 0, 1) := by decide +kernel
theorem d_Model_breaks_97 : decode b_Model_breaks 97 = .ok (.invokevirtual 91, 3) := by decide +kernel
theorem d_Model_breaks_100 : decode b_Model_breaks 100 = .ok (.aload_n 0, 1) := by decide +kernel
theorem d_Model_breaks_101 : decode b_Model_breaks 101 = .ok (.iload 4, 2) := by decide +kernel
theorem d_Model_breaks_103 : decode b_Model_breaks 103 = .ok (.iload 8, 2) := by decide +kernel
theorem d_Model_breaks_105 : decode b_Model_breaks 105 = .ok (.ifCond .eq 13, 3) := by decide +kernel
theorem d_Model_breaks_108 : decode b_Model_breaks 108 = .ok (.aload_n 0, 1) := by decide +kernel
theorem d_Model_breaks_109 : decode b_Model_breaks 109 = .ok (.getfield 27, 3) := by decide +kernel
theorem d_Model_breaks_112 : decode b_Model_breaks 112 = .ok (.iload 6, 2) := by decide +kernel
theorem d_Model_breaks_114 : decode b_Model_breaks 114 = .ok (.baload, 1) := by decide +kernel
theorem d_Model_breaks_115 : decode b_Model_breaks 115 = .ok (.goto 4, 3) := by decide +kernel
theorem d_Model_breaks_118 : decode b_Model_breaks 118 = .ok (.iconst 0, 1) := by decide +kernel
theorem d_Model_breaks_119 : decode b_Model_breaks 119 = .ok (.invokevirtual 91, 3) := by decide +kernel
theorem d_Model_breaks_122 : decode b_Model_breaks 122 = .ok (.if_icmp .eq 7, 3) := by decide +kernel
theorem d_Model_breaks_125 : decode b_Model_breaks 125 = .ok (.iconst 1, 1) := by decide +kernel
theorem d_Model_breaks_126 : decode b_Model_breaks 126 = .ok (.goto 4, 3) := by decide +kernel
theorem d_Model_breaks_129 : decode b_Model_breaks 129 = .ok (.iconst 0, 1) := by decide +kernel
theorem d_Model_breaks_130 : decode b_Model_breaks 130 = .ok (.istore 5, 2) := by decide +kernel
theorem d_Model_breaks_132 : decode b_Model_breaks 132 = .ok (.iinc 6 1, 3) := by decide +kernel
theorem d_Model_breaks_135 : decode b_Model_breaks 135 = .ok (.goto (-126), 3) := by decide +kernel
theorem d_Model_breaks_138 : decode b_Model_breaks 138 = .ok (.iload 5, 2) := by decide +kernel
theorem d_Model_breaks_140 : decode b_Model_breaks 140 = .ok (.ireturn, 1) := by decide +kernel
theorem v_Model_breaks : Cond.instanceMethod y_Model_breaks ∈ nm_Ts ∧ Cond.selects y_Model_breaks.cls y_Model_breaks y_Model_breaks ∈ nm_Ts ∧ Cond.initialized y_Model_breaks.cls ∈ nm_Ts ∧ Cond.code y_Model_breaks b_Model_breaks 9 (some .boolean) ∈ nm_Ts ∧ mz_cl1 y_Model_breaks 4 := ⟨nm_t5 66 rfl rfl, nm_s 37 rfl rfl, nm_t1 12 rfl rfl, nm_t5 67 rfl rfl, by decide +kernel⟩
def y_Model_faultOfCard : MethodName := ⟨"CardOfficeModel", "faultOfCard", "(III)I"⟩
abbrev b_Model_faultOfCard : ByteArray := prog_14_method_54_code
def r_Model_faultOfCard (c s : Nat) : Room := { frames := 4, cells := c, slots := s, locals := 100 }
theorem d_Model_faultOfCard_0 : decode b_Model_faultOfCard 0 = .ok (.aload_n 0, 1) := by decide +kernel
theorem d_Model_faultOfCard_1 : decode b_Model_faultOfCard 1 = .ok (.iload_n 1, 1) := by decide +kernel
theorem d_Model_faultOfCard_2 : decode b_Model_faultOfCard 2 = .ok (.invokevirtual 197, 3) := by decide +kernel
theorem d_Model_faultOfCard_5 : decode b_Model_faultOfCard 5 = .ok (.istore 4, 2) := by decide +kernel
theorem d_Model_faultOfCard_7 : decode b_Model_faultOfCard 7 = .ok (.aload_n 0, 1) := by decide +kernel
theorem d_Model_faultOfCard_8 : decode b_Model_faultOfCard 8 = .ok (.iload_n 1, 1) := by decide +kernel
theorem d_Model_faultOfCard_9 : decode b_Model_faultOfCard 9 = .ok (.iload_n 2, 1) := by decide +kernel
theorem d_Model_faultOfCard_10 : decode b_Model_faultOfCard 10 = .ok (.iload_n 3, 1) := by decide +kernel
theorem d_Model_faultOfCard_11 : decode b_Model_faultOfCard 11 = .ok (.invokevirtual 200, 3) := by decide +kernel
theorem d_Model_faultOfCard_14 : decode b_Model_faultOfCard 14 = .ok (.ifCond .ne 7, 3) := by decide +kernel
theorem d_Model_faultOfCard_17 : decode b_Model_faultOfCard 17 = .ok (.iconst 1, 1) := by decide +kernel
theorem d_Model_faultOfCard_18 : decode b_Model_faultOfCard 18 = .ok (.goto 4, 3) := by decide +kernel
theorem d_Model_faultOfCard_21 : decode b_Model_faultOfCard 21 = .ok (.iconst 0, 1) := by decide +kernel
theorem d_Model_faultOfCard_22 : decode b_Model_faultOfCard 22 = .ok (.istore 5, 2) := by decide +kernel
theorem d_Model_faultOfCard_24 : decode b_Model_faultOfCard 24 = .ok (.iload 4, 2) := by decide +kernel
theorem d_Model_faultOfCard_26 : decode b_Model_faultOfCard 26 = .ok (.ifCond .eq 7, 3) := by decide +kernel
theorem d_Model_faultOfCard_29 : decode b_Model_faultOfCard 29 = .ok (.iconst 1, 1) := by decide +kernel
theorem d_Model_faultOfCard_30 : decode b_Model_faultOfCard 30 = .ok (.goto 4, 3) := by decide +kernel
theorem d_Model_faultOfCard_33 : decode b_Model_faultOfCard 33 = .ok (.iconst 0, 1) := by decide +kernel
theorem d_Model_faultOfCard_34 : decode b_Model_faultOfCard 34 = .ok (.istore 6, 2) := by decide +kernel
theorem d_Model_faultOfCard_36 : decode b_Model_faultOfCard 36 = .ok (.iconst 0, 1) := by decide +kernel
theorem d_Model_faultOfCard_37 : decode b_Model_faultOfCard 37 = .ok (.istore 7, 2) := by decide +kernel
theorem d_Model_faultOfCard_39 : decode b_Model_faultOfCard 39 = .ok (.iload 7, 2) := by decide +kernel
theorem d_Model_faultOfCard_41 : decode b_Model_faultOfCard 41 = .ok (.iload_n 3, 1) := by decide +kernel
theorem d_Model_faultOfCard_42 : decode b_Model_faultOfCard 42 = .ok (.if_icmp .ge 51, 3) := by decide +kernel
theorem d_Model_faultOfCard_45 : decode b_Model_faultOfCard 45 = .ok (.iload 5, 2) := by decide +kernel
theorem d_Model_faultOfCard_47 : decode b_Model_faultOfCard 47 = .ok (.ifCond .ne 13, 3) := by decide +kernel
theorem d_Model_faultOfCard_50 : decode b_Model_faultOfCard 50 = .ok (.aload_n 0, 1) := by decide +kernel
theorem d_Model_faultOfCard_51 : decode b_Model_faultOfCard 51 = .ok (.iload_n 1, 1) := by decide +kernel
theorem d_Model_faultOfCard_52 : decode b_Model_faultOfCard 52 = .ok (.iload 7, 2) := by decide +kernel
theorem d_Model_faultOfCard_54 : decode b_Model_faultOfCard 54 = .ok (.invokevirtual 203, 3) := by decide +kernel
theorem d_Model_faultOfCard_57 : decode b_Model_faultOfCard 57 = .ok (.ifCond .eq 7, 3) := by decide +kernel
theorem d_Model_faultOfCard_60 : decode b_Model_faultOfCard 60 = .ok (.iconst 1, 1) := by decide +kernel
theorem d_Model_faultOfCard_61 : decode b_Model_faultOfCard 61 = .ok (.goto 4, 3) := by decide +kernel
theorem d_Model_faultOfCard_64 : decode b_Model_faultOfCard 64 = .ok (.iconst 0, 1) := by decide +kernel
theorem d_Model_faultOfCard_65 : decode b_Model_faultOfCard 65 = .ok (.istore 5, 2) := by decide +kernel
theorem d_Model_faultOfCard_67 : decode b_Model_faultOfCard 67 = .ok (.iload 6, 2) := by decide +kernel
theorem d_Model_faultOfCard_69 : decode b_Model_faultOfCard 69 = .ok (.aload_n 0, 1) := by decide +kernel
theorem d_Model_faultOfCard_70 : decode b_Model_faultOfCard 70 = .ok (.iload_n 1, 1) := by decide +kernel
theorem d_Model_faultOfCard_71 : decode b_Model_faultOfCard 71 = .ok (.iload 7, 2) := by decide +kernel
theorem d_Model_faultOfCard_73 : decode b_Model_faultOfCard 73 = .ok (.invokevirtual 191, 3) := by decide +kernel
theorem d_Model_faultOfCard_76 : decode b_Model_faultOfCard 76 = .ok (.ifCond .eq 7, 3) := by decide +kernel
theorem d_Model_faultOfCard_79 : decode b_Model_faultOfCard 79 = .ok (.iconst 1, 1) := by decide +kernel
theorem d_Model_faultOfCard_80 : decode b_Model_faultOfCard 80 = .ok (.goto 4, 3) := by decide +kernel
theorem d_Model_faultOfCard_83 : decode b_Model_faultOfCard 83 = .ok (.iconst 0, 1) := by decide +kernel
theorem d_Model_faultOfCard_84 : decode b_Model_faultOfCard 84 = .ok (.iadd, 1) := by decide +kernel
theorem d_Model_faultOfCard_85 : decode b_Model_faultOfCard 85 = .ok (.istore 6, 2) := by decide +kernel
theorem d_Model_faultOfCard_87 : decode b_Model_faultOfCard 87 = .ok (.iinc 7 1, 3) := by decide +kernel
theorem d_Model_faultOfCard_90 : decode b_Model_faultOfCard 90 = .ok (.goto (-51), 3) := by decide +kernel
theorem d_Model_faultOfCard_93 : decode b_Model_faultOfCard 93 = .ok (.iconst 0, 1) := by decide +kernel
theorem d_Model_faultOfCard_94 : decode b_Model_faultOfCard 94 = .ok (.istore 7, 2) := by decide +kernel
theorem d_Model_faultOfCard_96 : decode b_Model_faultOfCard 96 = .ok (.iload 7, 2) := by decide +kernel
theorem d_Model_faultOfCard_98 : decode b_Model_faultOfCard 98 = .ok (.bipush 24, 2) := by decide +kernel
theorem d_Model_faultOfCard_100 : decode b_Model_faultOfCard 100 = .ok (.if_icmp .ge 42, 3) := by decide +kernel
theorem d_Model_faultOfCard_103 : decode b_Model_faultOfCard 103 = .ok (.iload 5, 2) := by decide +kernel
theorem d_Model_faultOfCard_105 : decode b_Model_faultOfCard 105 = .ok (.ifCond .ne 24, 3) := by decide +kernel
theorem d_Model_faultOfCard_108 : decode b_Model_faultOfCard 108 = .ok (.iload 4, 2) := by decide +kernel
theorem d_Model_faultOfCard_110 : decode b_Model_faultOfCard 110 = .ok (.ifCond .eq 23, 3) := by decide +kernel
theorem d_Model_faultOfCard_113 : decode b_Model_faultOfCard 113 = .ok (.aload_n 0, 1) := by decide +kernel
theorem d_Model_faultOfCard_114 : decode b_Model_faultOfCard 114 = .ok (.iload_n 1, 1) := by decide +kernel
theorem d_Model_faultOfCard_115 : decode b_Model_faultOfCard 115 = .ok (.bipush 32, 2) := by decide +kernel
theorem d_Model_faultOfCard_117 : decode b_Model_faultOfCard 117 = .ok (.iload 7, 2) := by decide +kernel
theorem d_Model_faultOfCard_119 : decode b_Model_faultOfCard 119 = .ok (.iadd, 1) := by decide +kernel
theorem d_Model_faultOfCard_120 : decode b_Model_faultOfCard 120 = .ok (.iload_n 2, 1) := by decide +kernel
theorem d_Model_faultOfCard_121 : decode b_Model_faultOfCard 121 = .ok (.invokevirtual 151, 3) := by decide +kernel
theorem d_Model_faultOfCard_124 : decode b_Model_faultOfCard 124 = .ok (.bipush (-2), 2) := by decide +kernel
theorem d_Model_faultOfCard_126 : decode b_Model_faultOfCard 126 = .ok (.if_icmp .ne 7, 3) := by decide +kernel
theorem d_Model_faultOfCard_129 : decode b_Model_faultOfCard 129 = .ok (.iconst 1, 1) := by decide +kernel
theorem d_Model_faultOfCard_130 : decode b_Model_faultOfCard 130 = .ok (.goto 4, 3) := by decide +kernel
theorem d_Model_faultOfCard_133 : decode b_Model_faultOfCard 133 = .ok (.iconst 0, 1) := by decide +kernel
theorem d_Model_faultOfCard_134 : decode b_Model_faultOfCard 134 = .ok (.istore 5, 2) := by decide +kernel
theorem d_Model_faultOfCard_136 : decode b_Model_faultOfCard 136 = .ok (.iinc 7 1, 3) := by decide +kernel
theorem d_Model_faultOfCard_139 : decode b_Model_faultOfCard 139 = .ok (.goto (-43), 3) := by decide +kernel
theorem d_Model_faultOfCard_142 : decode b_Model_faultOfCard 142 = .ok (.iconst 0, 1) := by decide +kernel
theorem d_Model_faultOfCard_143 : decode b_Model_faultOfCard 143 = .ok (.istore 7, 2) := by decide +kernel
theorem d_Model_faultOfCard_145 : decode b_Model_faultOfCard 145 = .ok (.iconst 0, 1) := by decide +kernel
theorem d_Model_faultOfCard_146 : decode b_Model_faultOfCard 146 = .ok (.istore 8, 2) := by decide +kernel
theorem d_Model_faultOfCard_148 : decode b_Model_faultOfCard 148 = .ok (.iload 8, 2) := by decide +kernel
theorem d_Model_faultOfCard_150 : decode b_Model_faultOfCard 150 = .ok (.iconst 4, 1) := by decide +kernel
theorem d_Model_faultOfCard_151 : decode b_Model_faultOfCard 151 = .ok (.if_icmp .ge 33, 3) := by decide +kernel
theorem d_Model_faultOfCard_154 : decode b_Model_faultOfCard 154 = .ok (.iload 7, 2) := by decide +kernel
theorem d_Model_faultOfCard_156 : decode b_Model_faultOfCard 156 = .ok (.ifCond .ne 15, 3) := by decide +kernel
theorem d_Model_faultOfCard_159 : decode b_Model_faultOfCard 159 = .ok (.aload_n 0, 1) := by decide +kernel
theorem d_Model_faultOfCard_160 : decode b_Model_faultOfCard 160 = .ok (.getfield 42, 3) := by decide +kernel
theorem d_Model_faultOfCard_163 : decode b_Model_faultOfCard 163 = .ok (.iload 8, 2) := by decide +kernel
theorem d_Model_faultOfCard_165 : decode b_Model_faultOfCard 165 = .ok (.iaload, 1) := by decide +kernel
theorem d_Model_faultOfCard_166 : decode b_Model_faultOfCard 166 = .ok (.ldc 206, 2) := by decide +kernel
theorem d_Model_faultOfCard_168 : decode b_Model_faultOfCard 168 = .ok (.if_icmp .le 7, 3) := by decide +kernel
theorem d_Model_faultOfCard_171 : decode b_Model_faultOfCard 171 = .ok (.iconst 1, 1) := by decide +kernel
theorem d_Model_faultOfCard_172 : decode b_Model_faultOfCard 172 = .ok (.goto 4, 3) := by decide +kernel
theorem d_Model_faultOfCard_175 : decode b_Model_faultOfCard 175 = .ok (.iconst 0, 1) := by decide +kernel
theorem d_Model_faultOfCard_176 : decode b_Model_faultOfCard 176 = .ok (.istore 7, 2) := by decide +kernel
theorem d_Model_faultOfCard_178 : decode b_Model_faultOfCard 178 = .ok (.iinc 8 1, 3) := by decide +kernel
theorem d_Model_faultOfCard_181 : decode b_Model_faultOfCard 181 = .ok (.goto (-33), 3) := by decide +kernel
theorem d_Model_faultOfCard_184 : decode b_Model_faultOfCard 184 = .ok (.iload 5, 2) := by decide +kernel
theorem d_Model_faultOfCard_186 : decode b_Model_faultOfCard 186 = .ok (.ifCond .eq 7, 3) := by decide +kernel
theorem d_Model_faultOfCard_189 : decode b_Model_faultOfCard 189 = .ok (.iconst 2, 1) := by decide +kernel
theorem d_Model_faultOfCard_190 : decode b_Model_faultOfCard 190 = .ok (.goto 29, 3) := by decide +kernel
theorem d_Model_faultOfCard_193 : decode b_Model_faultOfCard 193 = .ok (.iload 7, 2) := by decide +kernel
theorem d_Model_faultOfCard_195 : decode b_Model_faultOfCard 195 = .ok (.ifCond .eq 7, 3) := by decide +kernel
theorem d_Model_faultOfCard_198 : decode b_Model_faultOfCard 198 = .ok (.iconst 3, 1) := by decide +kernel
theorem d_Model_faultOfCard_199 : decode b_Model_faultOfCard 199 = .ok (.goto 20, 3) := by decide +kernel
theorem d_Model_faultOfCard_202 : decode b_Model_faultOfCard 202 = .ok (.aload_n 0, 1) := by decide +kernel
theorem d_Model_faultOfCard_203 : decode b_Model_faultOfCard 203 = .ok (.getfield 188, 3) := by decide +kernel
theorem d_Model_faultOfCard_206 : decode b_Model_faultOfCard 206 = .ok (.iload 6, 2) := by decide +kernel
theorem d_Model_faultOfCard_208 : decode b_Model_faultOfCard 208 = .ok (.iadd, 1) := by decide +kernel
theorem d_Model_faultOfCard_209 : decode b_Model_faultOfCard 209 = .ok (.bipush 100, 2) := by decide +kernel
theorem d_Model_faultOfCard_211 : decode b_Model_faultOfCard 211 = .ok (.if_icmp .le 7, 3) := by decide +kernel
theorem d_Model_faultOfCard_214 : decode b_Model_faultOfCard 214 = .ok (.iconst 4, 1) := by decide +kernel
theorem d_Model_faultOfCard_215 : decode b_Model_faultOfCard 215 = .ok (.goto 4, 3) := by decide +kernel
theorem d_Model_faultOfCard_218 : decode b_Model_faultOfCard 218 = .ok (.iconst 0, 1) := by decide +kernel
theorem d_Model_faultOfCard_219 : decode b_Model_faultOfCard 219 = .ok (.ireturn, 1) := by decide +kernel
theorem v_Model_faultOfCard : Cond.instanceMethod y_Model_faultOfCard ∈ nm_Ts ∧ Cond.selects y_Model_faultOfCard.cls y_Model_faultOfCard y_Model_faultOfCard ∈ nm_Ts ∧ Cond.initialized y_Model_faultOfCard.cls ∈ nm_Ts ∧ Cond.code y_Model_faultOfCard b_Model_faultOfCard 9 (some .int) ∈ nm_Ts ∧ mz_cl1 y_Model_faultOfCard 3 := ⟨nm_t5 70 rfl rfl, nm_s 38 rfl rfl, nm_t1 12 rfl rfl, nm_t5 71 rfl rfl, by decide +kernel⟩
def y_Model_isListed : MethodName := ⟨"CardOfficeModel", "isListed", "(I)Z"⟩
abbrev b_Model_isListed : ByteArray := prog_14_method_49_code
def r_Model_isListed (c s : Nat) : Room := { frames := 0, cells := c, slots := s, locals := 0 }
theorem d_Model_isListed_0 : decode b_Model_isListed 0 = .ok (.iconst 0, 1) := by decide +kernel
theorem d_Model_isListed_1 : decode b_Model_isListed 1 = .ok (.istore_n 2, 1) := by decide +kernel
theorem d_Model_isListed_2 : decode b_Model_isListed 2 = .ok (.bipush 40, 2) := by decide +kernel
theorem d_Model_isListed_4 : decode b_Model_isListed 4 = .ok (.iload_n 1, 1) := by decide +kernel
theorem d_Model_isListed_5 : decode b_Model_isListed 5 = .ok (.imul, 1) := by decide +kernel
theorem d_Model_isListed_6 : decode b_Model_isListed 6 = .ok (.istore_n 3, 1) := by decide +kernel
theorem d_Model_isListed_7 : decode b_Model_isListed 7 = .ok (.iload_n 3, 1) := by decide +kernel
theorem d_Model_isListed_8 : decode b_Model_isListed 8 = .ok (.bipush 40, 2) := by decide +kernel
theorem d_Model_isListed_10 : decode b_Model_isListed 10 = .ok (.iload_n 1, 1) := by decide +kernel
theorem d_Model_isListed_11 : decode b_Model_isListed 11 = .ok (.imul, 1) := by decide +kernel
theorem d_Model_isListed_12 : decode b_Model_isListed 12 = .ok (.aload_n 0, 1) := by decide +kernel
theorem d_Model_isListed_13 : decode b_Model_isListed 13 = .ok (.getfield 33, 3) := by decide +kernel
theorem d_Model_isListed_16 : decode b_Model_isListed 16 = .ok (.iload_n 1, 1) := by decide +kernel
theorem d_Model_isListed_17 : decode b_Model_isListed 17 = .ok (.iaload, 1) := by decide +kernel
theorem d_Model_isListed_18 : decode b_Model_isListed 18 = .ok (.iadd, 1) := by decide +kernel
theorem d_Model_isListed_19 : decode b_Model_isListed 19 = .ok (.if_icmp .ge 30, 3) := by decide +kernel
theorem d_Model_isListed_22 : decode b_Model_isListed 22 = .ok (.iload_n 2, 1) := by decide +kernel
theorem d_Model_isListed_23 : decode b_Model_isListed 23 = .ok (.ifCond .ne 14, 3) := by decide +kernel
theorem d_Model_isListed_26 : decode b_Model_isListed 26 = .ok (.aload_n 0, 1) := by decide +kernel
theorem d_Model_isListed_27 : decode b_Model_isListed 27 = .ok (.getfield 30, 3) := by decide +kernel
theorem d_Model_isListed_30 : decode b_Model_isListed 30 = .ok (.iload_n 3, 1) := by decide +kernel
theorem d_Model_isListed_31 : decode b_Model_isListed 31 = .ok (.baload, 1) := by decide +kernel
theorem d_Model_isListed_32 : decode b_Model_isListed 32 = .ok (.bipush 99, 2) := by decide +kernel
theorem d_Model_isListed_34 : decode b_Model_isListed 34 = .ok (.if_icmp .ne 7, 3) := by decide +kernel
theorem d_Model_isListed_37 : decode b_Model_isListed 37 = .ok (.iconst 1, 1) := by decide +kernel
theorem d_Model_isListed_38 : decode b_Model_isListed 38 = .ok (.goto 4, 3) := by decide +kernel
theorem d_Model_isListed_41 : decode b_Model_isListed 41 = .ok (.iconst 0, 1) := by decide +kernel
theorem d_Model_isListed_42 : decode b_Model_isListed 42 = .ok (.istore_n 2, 1) := by decide +kernel
theorem d_Model_isListed_43 : decode b_Model_isListed 43 = .ok (.iinc 3 1, 3) := by decide +kernel
theorem d_Model_isListed_46 : decode b_Model_isListed 46 = .ok (.goto (-39), 3) := by decide +kernel
theorem d_Model_isListed_49 : decode b_Model_isListed 49 = .ok (.iload_n 2, 1) := by decide +kernel
theorem d_Model_isListed_50 : decode b_Model_isListed 50 = .ok (.ireturn, 1) := by decide +kernel
theorem v_Model_isListed : Cond.instanceMethod y_Model_isListed ∈ nm_Ts ∧ Cond.selects y_Model_isListed.cls y_Model_isListed y_Model_isListed ∈ nm_Ts ∧ Cond.initialized y_Model_isListed.cls ∈ nm_Ts ∧ Cond.code y_Model_isListed b_Model_isListed 4 (some .boolean) ∈ nm_Ts ∧ mz_cl1 y_Model_isListed 1 := ⟨nm_t5 74 rfl rfl, nm_s 39 rfl rfl, nm_t1 12 rfl rfl, nm_t5 75 rfl rfl, by decide +kernel⟩
def y_Model_counts : MethodName := ⟨"CardOfficeModel", "counts", "(III)Z"⟩
abbrev b_Model_counts : ByteArray := prog_14_method_53_code
def r_Model_counts (c s : Nat) : Room := { frames := 3, cells := c, slots := s, locals := 71 }
theorem d_Model_counts_0 : decode b_Model_counts 0 = .ok (.iconst 1, 1) := by decide +kernel
theorem d_Model_counts_1 : decode b_Model_counts 1 = .ok (.istore 4, 2) := by decide +kernel
theorem d_Model_counts_3 : decode b_Model_counts 3 = .ok (.iconst 0, 1) := by decide +kernel
theorem d_Model_counts_4 : decode b_Model_counts 4 = .ok (.istore 5, 2) := by decide +kernel
theorem d_Model_counts_6 : decode b_Model_counts 6 = .ok (.iload 5, 2) := by decide +kernel
theorem d_Model_counts_8 : decode b_Model_counts 8 = .ok (.iconst 4, 1) := by decide +kernel
theorem d_Model_counts_9 : decode b_Model_counts 9 = .ok (.if_icmp .ge 146, 3) := by decide +kernel
theorem d_Model_counts_12 : decode b_Model_counts 12 = .ok (.aload_n 0, 1) := by decide +kernel
theorem d_Model_counts_13 : decode b_Model_counts 13 = .ok (.getfield 42, 3) := by decide +kernel
theorem d_Model_counts_16 : decode b_Model_counts 16 = .ok (.iload 5, 2) := by decide +kernel
theorem d_Model_counts_18 : decode b_Model_counts 18 = .ok (.aload_n 0, 1) := by decide +kernel
theorem d_Model_counts_19 : decode b_Model_counts 19 = .ok (.getfield 36, 3) := by decide +kernel
theorem d_Model_counts_22 : decode b_Model_counts 22 = .ok (.iconst 4, 1) := by decide +kernel
theorem d_Model_counts_23 : decode b_Model_counts 23 = .ok (.iload_n 1, 1) := by decide +kernel
theorem d_Model_counts_24 : decode b_Model_counts 24 = .ok (.imul, 1) := by decide +kernel
theorem d_Model_counts_25 : decode b_Model_counts 25 = .ok (.iload 5, 2) := by decide +kernel
theorem d_Model_counts_27 : decode b_Model_counts 27 = .ok (.iadd, 1) := by decide +kernel
theorem d_Model_counts_28 : decode b_Model_counts 28 = .ok (.iaload, 1) := by decide +kernel
theorem d_Model_counts_29 : decode b_Model_counts 29 = .ok (.iload_n 3, 1) := by decide +kernel
theorem d_Model_counts_30 : decode b_Model_counts 30 = .ok (.if_icmp .ge 7, 3) := by decide +kernel
theorem d_Model_counts_33 : decode b_Model_counts 33 = .ok (.iconst 0, 1) := by decide +kernel
theorem d_Model_counts_34 : decode b_Model_counts 34 = .ok (.goto 10, 3) := by decide +kernel
theorem d_Model_counts_37 : decode b_Model_counts 37 = .ok (.aload_n 0, 1) := by decide +kernel
theorem d_Model_counts_38 : decode b_Model_counts 38 = .ok (.getfield 39, 3) := by decide +kernel
theorem d_Model_counts_41 : decode b_Model_counts 41 = .ok (.iload 5, 2) := by decide +kernel
theorem d_Model_counts_43 : decode b_Model_counts 43 = .ok (.iaload, 1) := by decide +kernel
theorem d_Model_counts_44 : decode b_Model_counts 44 = .ok (.iastore, 1) := by decide +kernel
theorem d_Model_counts_45 : decode b_Model_counts 45 = .ok (.iconst 1, 1) := by decide +kernel
theorem d_Model_counts_46 : decode b_Model_counts 46 = .ok (.istore 6, 2) := by decide +kernel
theorem d_Model_counts_48 : decode b_Model_counts 48 = .ok (.iconst 0, 1) := by decide +kernel
theorem d_Model_counts_49 : decode b_Model_counts 49 = .ok (.istore 7, 2) := by decide +kernel
theorem d_Model_counts_51 : decode b_Model_counts 51 = .ok (.iload 7, 2) := by decide +kernel
theorem d_Model_counts_53 : decode b_Model_counts 53 = .ok (.bipush 6, 2) := by decide +kernel
theorem d_Model_counts_55 : decode b_Model_counts 55 = .ok (.if_icmp .ge 94, 3) := by decide +kernel
theorem d_Model_counts_58 : decode b_Model_counts 58 = .ok (.aload_n 0, 1) := by decide +kernel
theorem d_Model_counts_59 : decode b_Model_counts 59 = .ok (.iload_n 1, 1) := by decide +kernel
theorem d_Model_counts_60 : decode b_Model_counts 60 = .ok (.bipush 64, 2) := by decide +kernel
theorem d_Model_counts_62 : decode b_Model_counts 62 = .ok (.bipush 6, 2) := by decide +kernel
theorem d_Model_counts_64 : decode b_Model_counts 64 = .ok (.iload 5, 2) := by decide +kernel
theorem d_Model_counts_66 : decode b_Model_counts 66 = .ok (.imul, 1) := by decide +kernel
theorem d_Model_counts_67 : decode b_Model_counts 67 = .ok (.iadd, 1) := by decide +kernel
theorem d_Model_counts_68 : decode b_Model_counts 68 = .ok (.iload 7, 2) := by decide +kernel
theorem d_Model_counts_70 : decode b_Model_counts 70 = .ok (.iadd, 1) := by decide +kernel
theorem d_Model_counts_71 : decode b_Model_counts 71 = .ok (.iload_n 2, 1) := by decide +kernel
theorem d_Model_counts_72 : decode b_Model_counts 72 = .ok (.invokevirtual 151, 3) := by decide +kernel
theorem d_Model_counts_75 : decode b_Model_counts 75 = .ok (.istore 8, 2) := by decide +kernel
theorem d_Model_counts_77 : decode b_Model_counts 77 = .ok (.iload 4, 2) := by decide +kernel
theorem d_Model_counts_79 : decode b_Model_counts 79 = .ok (.ifCond .eq 14, 3) := by decide +kernel
theorem d_Model_counts_82 : decode b_Model_counts 82 = .ok (.iload 8, 2) := by decide +kernel
theorem d_Model_counts_84 : decode b_Model_counts 84 = .ok (.bipush (-2), 2) := by decide +kernel
theorem d_Model_counts_86 : decode b_Model_counts 86 = .ok (.if_icmp .eq 7, 3) := by decide +kernel
theorem d_Model_counts_89 : decode b_Model_counts 89 = .ok (.iconst 1, 1) := by decide +kernel
theorem d_Model_counts_90 : decode b_Model_counts 90 = .ok (.goto 4, 3) := by decide +kernel
theorem d_Model_counts_93 : decode b_Model_counts 93 = .ok (.iconst 0, 1) := by decide +kernel
theorem d_Model_counts_94 : decode b_Model_counts 94 = .ok (.istore 4, 2) := by decide +kernel
theorem d_Model_counts_96 : decode b_Model_counts 96 = .ok (.iload 8, 2) := by decide +kernel
theorem d_Model_counts_98 : decode b_Model_counts 98 = .ok (.ifCond .ge 7, 3) := by decide +kernel
theorem d_Model_counts_101 : decode b_Model_counts 101 = .ok (.iconst 0, 1) := by decide +kernel
theorem d_Model_counts_102 : decode b_Model_counts 102 = .ok (.goto 8, 3) := by decide +kernel
theorem d_Model_counts_105 : decode b_Model_counts 105 = .ok (.iload 8, 2) := by decide +kernel
theorem d_Model_counts_107 : decode b_Model_counts 107 = .ok (.invokestatic 59, 3) := by decide +kernel
theorem d_Model_counts_110 : decode b_Model_counts 110 = .ok (.istore 9, 2) := by decide +kernel
theorem d_Model_counts_112 : decode b_Model_counts 112 = .ok (.aload_n 0, 1) := by decide +kernel
theorem d_Model_counts_113 : decode b_Model_counts 113 = .ok (.getfield 42, 3) := by decide +kernel
theorem d_Model_counts_116 : decode b_Model_counts 116 = .ok (.iload 5, 2) := by decide +kernel
theorem d_Model_counts_118 : decode b_Model_counts 118 = .ok (.dup2, 1) := by decide +kernel
theorem d_Model_counts_119 : decode b_Model_counts 119 = .ok (.iaload, 1) := by decide +kernel
theorem d_Model_counts_120 : decode b_Model_counts 120 = .ok (.iload 9, 2) := by decide +kernel
theorem d_Model_counts_122 : decode b_Model_counts 122 = .ok (.ifCond .le 11, 3) := by decide +kernel
theorem d_Model_counts_125 : decode b_Model_counts 125 = .ok (.iload 9, 2) := by decide +kernel
theorem d_Model_counts_127 : decode b_Model_counts 127 = .ok (.iload 6, 2) := by decide +kernel
theorem d_Model_counts_129 : decode b_Model_counts 129 = .ok (.imul, 1) := by decide +kernel
theorem d_Model_counts_130 : decode b_Model_counts 130 = .ok (.goto 4, 3) := by decide +kernel
theorem d_Model_counts_133 : decode b_Model_counts 133 = .ok (.iconst 0, 1) := by decide +kernel
theorem d_Model_counts_134 : decode b_Model_counts 134 = .ok (.iadd, 1) := by decide +kernel
theorem d_Model_counts_135 : decode b_Model_counts 135 = .ok (.iastore, 1) := by decide +kernel
theorem d_Model_counts_136 : decode b_Model_counts 136 = .ok (.bipush 10, 2) := by decide +kernel
theorem d_Model_counts_138 : decode b_Model_counts 138 = .ok (.iload 6, 2) := by decide +kernel
theorem d_Model_counts_140 : decode b_Model_counts 140 = .ok (.imul, 1) := by decide +kernel
theorem d_Model_counts_141 : decode b_Model_counts 141 = .ok (.istore 6, 2) := by decide +kernel
theorem d_Model_counts_143 : decode b_Model_counts 143 = .ok (.iinc 7 1, 3) := by decide +kernel
theorem d_Model_counts_146 : decode b_Model_counts 146 = .ok (.goto (-95), 3) := by decide +kernel
theorem d_Model_counts_149 : decode b_Model_counts 149 = .ok (.iinc 5 1, 3) := by decide +kernel
theorem d_Model_counts_152 : decode b_Model_counts 152 = .ok (.goto (-146), 3) := by decide +kernel
theorem d_Model_counts_155 : decode b_Model_counts 155 = .ok (.iload 4, 2) := by decide +kernel
theorem d_Model_counts_157 : decode b_Model_counts 157 = .ok (.ireturn, 1) := by decide +kernel
theorem d_Model_counts : decode b_Model_counts 0 = .ok (.iconst 1, 1) ∧ decode b_Model_counts 1 = .ok (.istore 4, 2) ∧ decode b_Model_counts 3 = .ok (.iconst 0, 1) ∧ decode b_Model_counts 4 = .ok (.istore 5, 2) ∧ decode b_Model_counts 6 = .ok (.iload 5, 2) ∧ decode b_Model_counts 8 = .ok (.iconst 4, 1) ∧ decode b_Model_counts 9 = .ok (.if_icmp .ge 146, 3) ∧ decode b_Model_counts 12 = .ok (.aload_n 0, 1) ∧ decode b_Model_counts 13 = .ok (.getfield 42, 3) ∧ decode b_Model_counts 16 = .ok (.iload 5, 2) ∧ decode b_Model_counts 18 = .ok (.aload_n 0, 1) ∧ decode b_Model_counts 19 = .ok (.getfield 36, 3) ∧ decode b_Model_counts 22 = .ok (.iconst 4, 1) ∧ decode b_Model_counts 23 = .ok (.iload_n 1, 1) ∧ decode b_Model_counts 24 = .ok (.imul, 1) ∧ decode b_Model_counts 25 = .ok (.iload 5, 2) ∧ decode b_Model_counts 27 = .ok (.iadd, 1) ∧ decode b_Model_counts 28 = .ok (.iaload, 1) ∧ decode b_Model_counts 29 = .ok (.iload_n 3, 1) ∧ decode b_Model_counts 30 = .ok (.if_icmp .ge 7, 3) ∧ decode b_Model_counts 33 = .ok (.iconst 0, 1) ∧ decode b_Model_counts 34 = .ok (.goto 10, 3) ∧ decode b_Model_counts 37 = .ok (.aload_n 0, 1) ∧ decode b_Model_counts 38 = .ok (.getfield 39, 3) ∧ decode b_Model_counts 41 = .ok (.iload 5, 2) ∧ decode b_Model_counts 43 = .ok (.iaload, 1) ∧ decode b_Model_counts 44 = .ok (.iastore, 1) ∧ decode b_Model_counts 45 = .ok (.iconst 1, 1) ∧ decode b_Model_counts 46 = .ok (.istore 6, 2) ∧ decode b_Model_counts 48 = .ok (.iconst 0, 1) ∧ decode b_Model_counts 49 = .ok (.istore 7, 2) ∧ decode b_Model_counts 51 = .ok (.iload 7, 2) ∧ decode b_Model_counts 53 = .ok (.bipush 6, 2) ∧ decode b_Model_counts 55 = .ok (.if_icmp .ge 94, 3) ∧ decode b_Model_counts 58 = .ok (.aload_n 0, 1) ∧ decode b_Model_counts 59 = .ok (.iload_n 1, 1) ∧ decode b_Model_counts 60 = .ok (.bipush 64, 2) ∧ decode b_Model_counts 62 = .ok (.bipush 6, 2) ∧ decode b_Model_counts 64 = .ok (.iload 5, 2) ∧ decode b_Model_counts 66 = .ok (.imul, 1) ∧ decode b_Model_counts 67 = .ok (.iadd, 1) ∧ decode b_Model_counts 68 = .ok (.iload 7, 2) ∧ decode b_Model_counts 70 = .ok (.iadd, 1) ∧ decode b_Model_counts 71 = .ok (.iload_n 2, 1) ∧ decode b_Model_counts 72 = .ok (.invokevirtual 151, 3) ∧ decode b_Model_counts 75 = .ok (.istore 8, 2) ∧ decode b_Model_counts 77 = .ok (.iload 4, 2) ∧ decode b_Model_counts 79 = .ok (.ifCond .eq 14, 3) ∧ decode b_Model_counts 82 = .ok (.iload 8, 2) ∧ decode b_Model_counts 84 = .ok (.bipush (-2), 2) ∧ decode b_Model_counts 86 = .ok (.if_icmp .eq 7, 3) ∧ decode b_Model_counts 89 = .ok (.iconst 1, 1) ∧ decode b_Model_counts 90 = .ok (.goto 4, 3) ∧ decode b_Model_counts 93 = .ok (.iconst 0, 1) ∧ decode b_Model_counts 94 = .ok (.istore 4, 2) ∧ decode b_Model_counts 96 = .ok (.iload 8, 2) ∧ decode b_Model_counts 98 = .ok (.ifCond .ge 7, 3) ∧ decode b_Model_counts 101 = .ok (.iconst 0, 1) ∧ decode b_Model_counts 102 = .ok (.goto 8, 3) ∧ decode b_Model_counts 105 = .ok (.iload 8, 2) ∧ decode b_Model_counts 107 = .ok (.invokestatic 59, 3) ∧ decode b_Model_counts 110 = .ok (.istore 9, 2) ∧ decode b_Model_counts 112 = .ok (.aload_n 0, 1) ∧ decode b_Model_counts 113 = .ok (.getfield 42, 3) ∧ decode b_Model_counts 116 = .ok (.iload 5, 2) ∧ decode b_Model_counts 118 = .ok (.dup2, 1) ∧ decode b_Model_counts 119 = .ok (.iaload, 1) ∧ decode b_Model_counts 120 = .ok (.iload 9, 2) ∧ decode b_Model_counts 122 = .ok (.ifCond .le 11, 3) ∧ decode b_Model_counts 125 = .ok (.iload 9, 2) ∧ decode b_Model_counts 127 = .ok (.iload 6, 2) ∧ decode b_Model_counts 129 = .ok (.imul, 1) ∧ decode b_Model_counts 130 = .ok (.goto 4, 3) ∧ decode b_Model_counts 133 = .ok (.iconst 0, 1) ∧ decode b_Model_counts 134 = .ok (.iadd, 1) ∧ decode b_Model_counts 135 = .ok (.iastore, 1) ∧ decode b_Model_counts 136 = .ok (.bipush 10, 2) ∧ decode b_Model_counts 138 = .ok (.iload 6, 2) ∧ decode b_Model_counts 140 = .ok (.imul, 1) ∧ decode b_Model_counts 141 = .ok (.istore 6, 2) ∧ decode b_Model_counts 143 = .ok (.iinc 7 1, 3) ∧ decode b_Model_counts 146 = .ok (.goto (-95), 3) ∧ decode b_Model_counts 149 = .ok (.iinc 5 1, 3) ∧ decode b_Model_counts 152 = .ok (.goto (-146), 3) ∧ decode b_Model_counts 155 = .ok (.iload 4, 2) ∧ decode b_Model_counts 157 = .ok (.ireturn, 1) := ⟨d_Model_counts_0, d_Model_counts_1, d_Model_counts_3, d_Model_counts_4, d_Model_counts_6, d_Model_counts_8, d_Model_counts_9, d_Model_counts_12, d_Model_counts_13, d_Model_counts_16, d_Model_counts_18, d_Model_counts_19, d_Model_counts_22, d_Model_counts_23, d_Model_counts_24, d_Model_counts_25, d_Model_counts_27, d_Model_counts_28, d_Model_counts_29, d_Model_counts_30, d_Model_counts_33, d_Model_counts_34, d_Model_counts_37, d_Model_counts_38, d_Model_counts_41, d_Model_counts_43, d_Model_counts_44, d_Model_counts_45, d_Model_counts_46, d_Model_counts_48, d_Model_counts_49, d_Model_counts_51, d_Model_counts_53, d_Model_counts_55, d_Model_counts_58, d_Model_counts_59, d_Model_counts_60, d_Model_counts_62, d_Model_counts_64, d_Model_counts_66, d_Model_counts_67, d_Model_counts_68, d_Model_counts_70, d_Model_counts_71, d_Model_counts_72, d_Model_counts_75, d_Model_counts_77, d_Model_counts_79, d_Model_counts_82, d_Model_counts_84, d_Model_counts_86, d_Model_counts_89, d_Model_counts_90, d_Model_counts_93, d_Model_counts_94, d_Model_counts_96, d_Model_counts_98, d_Model_counts_101, d_Model_counts_102, d_Model_counts_105, d_Model_counts_107, d_Model_counts_110, d_Model_counts_112, d_Model_counts_113, d_Model_counts_116, d_Model_counts_118, d_Model_counts_119, d_Model_counts_120, d_Model_counts_122, d_Model_counts_125, d_Model_counts_127, d_Model_counts_129, d_Model_counts_130, d_Model_counts_133, d_Model_counts_134, d_Model_counts_135, d_Model_counts_136, d_Model_counts_138, d_Model_counts_140, d_Model_counts_141, d_Model_counts_143, d_Model_counts_146, d_Model_counts_149, d_Model_counts_152, d_Model_counts_155, d_Model_counts_157⟩
theorem v_Model_counts : Cond.instanceMethod y_Model_counts ∈ nm_Ts ∧ Cond.selects y_Model_counts.cls y_Model_counts y_Model_counts ∈ nm_Ts ∧ Cond.initialized y_Model_counts.cls ∈ nm_Ts ∧ Cond.code y_Model_counts b_Model_counts 10 (some .boolean) ∈ nm_Ts ∧ mz_cl1 y_Model_counts 3 := ⟨nm_t5 78 rfl rfl, nm_s 40 rfl rfl, nm_t1 12 rfl rfl, nm_t5 79 rfl rfl, by decide +kernel⟩
def y_Model_clashes : MethodName := ⟨"CardOfficeModel", "clashes", "(II)Z"⟩
abbrev b_Model_clashes : ByteArray := prog_14_method_50_code
def r_Model_clashes (c s : Nat) : Room := { frames := 2, cells := c, slots := s, locals := 52 }
theorem d_Model_clashes_0 : decode b_Model_clashes 0 = .ok (.iconst 0, 1) := by decide +kernel
theorem d_Model_clashes_1 : decode b_Model_clashes 1 = .ok (.istore_n 3, 1) := by decide +kernel
theorem d_Model_clashes_2 : decode b_Model_clashes 2 = .ok (.iconst 0, 1) := by decide +kernel
theorem d_Model_clashes_3 : decode b_Model_clashes 3 = .ok (.istore 4, 2) := by decide +kernel
theorem d_Model_clashes_5 : decode b_Model_clashes 5 = .ok (.iload 4, 2) := by decide +kernel
theorem d_Model_clashes_7 : decode b_Model_clashes 7 = .ok (.bipush 24, 2) := by decide +kernel
theorem d_Model_clashes_9 : decode b_Model_clashes 9 = .ok (.if_icmp .ge 32, 3) := by decide +kernel
theorem d_Model_clashes_12 : decode b_Model_clashes 12 = .ok (.iload_n 3, 1) := by decide +kernel
theorem d_Model_clashes_13 : decode b_Model_clashes 13 = .ok (.ifCond .ne 16, 3) := by decide +kernel
theorem d_Model_clashes_16 : decode b_Model_clashes 16 = .ok (.aload_n 0, 1) := by decide +kernel
theorem d_Model_clashes_17 : decode b_Model_clashes 17 = .ok (.iload_n 1, 1) := by decide +kernel
theorem d_Model_clashes_18 : decode b_Model_clashes 18 = .ok (.iload_n 2, 1) := by decide +kernel
theorem d_Model_clashes_19 : decode b_Model_clashes 19 = .ok (.iload 4, 2) := by decide +kernel
theorem d_Model_clashes_21 : decode b_Model_clashes 21 = .ok (.invokevirtual 185, 3) := by decide +kernel
theorem d_Model_clashes_24 : decode b_Model_clashes 24 = .ok (.bipush (-2), 2) := by decide +kernel
theorem d_Model_clashes_26 : decode b_Model_clashes 26 = .ok (.if_icmp .ne 7, 3) := by decide +kernel
theorem d_Model_clashes_29 : decode b_Model_clashes 29 = .ok (.iconst 1, 1) := by decide +kernel
theorem d_Model_clashes_30 : decode b_Model_clashes 30 = .ok (.goto 4, 3) := by decide +kernel
theorem d_Model_clashes_33 : decode b_Model_clashes 33 = .ok (.iconst 0, 1) := by decide +kernel
theorem d_Model_clashes_34 : decode b_Model_clashes 34 = .ok (.istore_n 3, 1) := by decide +kernel
theorem d_Model_clashes_35 : decode b_Model_clashes 35 = .ok (.iinc 4 1, 3) := by decide +kernel
theorem d_Model_clashes_38 : decode b_Model_clashes 38 = .ok (.goto (-33), 3) := by decide +kernel
theorem d_Model_clashes_41 : decode b_Model_clashes 41 = .ok (.iload_n 3, 1) := by decide +kernel
theorem d_Model_clashes_42 : decode b_Model_clashes 42 = .ok (.ireturn, 1) := by decide +kernel
theorem v_Model_clashes : Cond.instanceMethod y_Model_clashes ∈ nm_Ts ∧ Cond.selects y_Model_clashes.cls y_Model_clashes y_Model_clashes ∈ nm_Ts ∧ Cond.initialized y_Model_clashes.cls ∈ nm_Ts ∧ Cond.code y_Model_clashes b_Model_clashes 5 (some .boolean) ∈ nm_Ts ∧ mz_cl1 y_Model_clashes 2 := ⟨nm_t5 82 rfl rfl, nm_s 41 rfl rfl, nm_t1 12 rfl rfl, nm_t5 83 rfl rfl, by decide +kernel⟩
def y_Model_totals : MethodName := ⟨"CardOfficeModel", "totals", "(III)I"⟩
abbrev b_Model_totals : ByteArray := prog_14_method_48_code
def r_Model_totals (c s : Nat) : Room := { frames := 1, cells := c, slots := s, locals := 24 }
theorem d_Model_totals_0 : decode b_Model_totals 0 = .ok (.iconst (-1), 1) := by decide +kernel
theorem d_Model_totals_1 : decode b_Model_totals 1 = .ok (.istore 4, 2) := by decide +kernel
theorem d_Model_totals_3 : decode b_Model_totals 3 = .ok (.bipush 40, 2) := by decide +kernel
theorem d_Model_totals_5 : decode b_Model_totals 5 = .ok (.iload_n 1, 1) := by decide +kernel
theorem d_Model_totals_6 : decode b_Model_totals 6 = .ok (.imul, 1) := by decide +kernel
theorem d_Model_totals_7 : decode b_Model_totals 7 = .ok (.istore 5, 2) := by decide +kernel
theorem d_Model_totals_9 : decode b_Model_totals 9 = .ok (.iload 5, 2) := by decide +kernel
theorem d_Model_totals_11 : decode b_Model_totals 11 = .ok (.bipush 40, 2) := by decide +kernel
theorem d_Model_totals_13 : decode b_Model_totals 13 = .ok (.iload_n 1, 1) := by decide +kernel
theorem d_Model_totals_14 : decode b_Model_totals 14 = .ok (.imul, 1) := by decide +kernel
theorem d_Model_totals_15 : decode b_Model_totals 15 = .ok (.aload_n 0, 1) := by decide +kernel
theorem d_Model_totals_16 : decode b_Model_totals 16 = .ok (.getfield 33, 3) := by decide +kernel
theorem d_Model_totals_19 : decode b_Model_totals 19 = .ok (.iload_n 1, 1) := by decide +kernel
theorem d_Model_totals_20 : decode b_Model_totals 20 = .ok (.iaload, 1) := by decide +kernel
theorem d_Model_totals_21 : decode b_Model_totals 21 = .ok (.iadd, 1) := by decide +kernel
theorem d_Model_totals_22 : decode b_Model_totals 22 = .ok (.if_icmp .ge 145, 3) := by decide +kernel
theorem d_Model_totals_25 : decode b_Model_totals 25 = .ok (.aload_n 0, 1) := by decide +kernel
theorem d_Model_totals_26 : decode b_Model_totals 26 = .ok (.getfield 27, 3) := by decide +kernel
theorem d_Model_totals_29 : decode b_Model_totals 29 = .ok (.iload 5, 2) := by decide +kernel
theorem d_Model_totals_31 : decode b_Model_totals 31 = .ok (.baload, 1) := by decide +kernel
theorem d_Model_totals_32 : decode b_Model_totals 32 = .ok (.bipush 32, 2) := by decide +kernel
theorem d_Model_totals_34 : decode b_Model_totals 34 = .ok (.isub, 1) := by decide +kernel
theorem d_Model_totals_35 : decode b_Model_totals 35 = .ok (.istore 6, 2) := by decide +kernel
theorem d_Model_totals_37 : decode b_Model_totals 37 = .ok (.aload_n 0, 1) := by decide +kernel
theorem d_Model_totals_38 : decode b_Model_totals 38 = .ok (.getfield 30, 3) := by decide +kernel
theorem d_Model_totals_41 : decode b_Model_totals 41 = .ok (.iload 5, 2) := by decide +kernel
theorem d_Model_totals_43 : decode b_Model_totals 43 = .ok (.baload, 1) := by decide +kernel
theorem d_Model_totals_44 : decode b_Model_totals 44 = .ok (.bipush 32, 2) := by decide +kernel
theorem d_Model_totals_46 : decode b_Model_totals 46 = .ok (.iload_n 3, 1) := by decide +kernel
theorem d_Model_totals_47 : decode b_Model_totals 47 = .ok (.iadd, 1) := by decide +kernel
theorem d_Model_totals_48 : decode b_Model_totals 48 = .ok (.if_icmp .ne 39, 3) := by decide +kernel
theorem d_Model_totals_51 : decode b_Model_totals 51 = .ok (.iload 6, 2) := by decide +kernel
theorem d_Model_totals_53 : decode b_Model_totals 53 = .ok (.ifCond .lt 34, 3) := by decide +kernel
theorem d_Model_totals_56 : decode b_Model_totals 56 = .ok (.aload_n 0, 1) := by decide +kernel
theorem d_Model_totals_57 : decode b_Model_totals 57 = .ok (.getfield 36, 3) := by decide +kernel
theorem d_Model_totals_60 : decode b_Model_totals 60 = .ok (.iconst 4, 1) := by decide +kernel
theorem d_Model_totals_61 : decode b_Model_totals 61 = .ok (.iload_n 1, 1) := by decide +kernel
theorem d_Model_totals_62 : decode b_Model_totals 62 = .ok (.imul, 1) := by decide +kernel
theorem d_Model_totals_63 : decode b_Model_totals 63 = .ok (.iload 6, 2) := by decide +kernel
theorem d_Model_totals_65 : decode b_Model_totals 65 = .ok (.ifCond .ge 7, 3) := by decide +kernel
theorem d_Model_totals_68 : decode b_Model_totals 68 = .ok (.iconst 0, 1) := by decide +kernel
theorem d_Model_totals_69 : decode b_Model_totals 69 = .ok (.goto 8, 3) := by decide +kernel
theorem d_Model_totals_72 : decode b_Model_totals 72 = .ok (.iload 6, 2) := by decide +kernel
theorem d_Model_totals_74 : decode b_Model_totals 74 = .ok (.bipush 6, 2) := by decide +kernel
theorem d_Model_totals_76 : decode b_Model_totals 76 = .ok (.idiv, 1) := by decide +kernel
theorem d_Model_totals_77 : decode b_Model_totals 77 = .ok (.iadd, 1) := by decide +kernel
theorem d_Model_totals_78 : decode b_Model_totals 78 = .ok (.iaload, 1) := by decide +kernel
theorem d_Model_totals_79 : decode b_Model_totals 79 = .ok (.iload_n 2, 1) := by decide +kernel
theorem d_Model_totals_80 : decode b_Model_totals 80 = .ok (.if_icmp .ne 7, 3) := by decide +kernel
theorem d_Model_totals_83 : decode b_Model_totals 83 = .ok (.iconst 1, 1) := by decide +kernel
theorem d_Model_totals_84 : decode b_Model_totals 84 = .ok (.goto 4, 3) := by decide +kernel
theorem d_Model_totals_87 : decode b_Model_totals 87 = .ok (.iconst 0, 1) := by decide +kernel
theorem d_Model_totals_88 : decode b_Model_totals 88 = .ok (.istore 7, 2) := by decide +kernel
theorem d_Model_totals_90 : decode b_Model_totals 90 = .ok (.iload 7, 2) := by decide +kernel
theorem d_Model_totals_92 : decode b_Model_totals 92 = .ok (.ifCond .eq 34, 3) := by decide +kernel
theorem d_Model_totals_95 : decode b_Model_totals 95 = .ok (.aload_n 0, 1) := by decide +kernel
theorem d_Model_totals_96 : decode b_Model_totals 96 = .ok (.aload_n 0, 1) := by decide +kernel
theorem d_Model_totals_97 : decode b_Model_totals 97 = .ok (.getfield 39, 3) := by decide +kernel
theorem d_Model_totals_100 : decode b_Model_totals 100 = .ok (.iload 6, 2) := by decide +kernel
theorem d_Model_totals_102 : decode b_Model_totals 102 = .ok (.ifCond .ge 7, 3) := by decide +kernel
theorem d_Model_totals_105 : decode b_Model_totals 105 = .ok (.iconst 0, 1) := by decide +kernel
theorem d_Model_totals_106 : decode b_Model_totals 106 = .ok (.goto 8, 3) := by decide +kernel
theorem d_Model_totals_109 : decode b_Model_totals 109 = .ok (.iload 6, 2) := by decide +kernel
theorem d_Model_totals_111 : decode b_Model_totals 111 = .ok (.bipush 6, 2) := by decide +kernel
theorem d_Model_totals_113 : decode b_Model_totals 113 = .ok (.idiv, 1) := by decide +kernel
theorem d_Model_totals_114 : decode b_Model_totals 114 = .ok (.iaload, 1) := by decide +kernel
theorem d_Model_totals_115 : decode b_Model_totals 115 = .ok (.iload 6, 2) := by decide +kernel
theorem d_Model_totals_117 : decode b_Model_totals 117 = .ok (.bipush 6, 2) := by decide +kernel
theorem d_Model_totals_119 : decode b_Model_totals 119 = .ok (.irem, 1) := by decide +kernel
theorem d_Model_totals_120 : decode b_Model_totals 120 = .ok (.invokevirtual 182, 3) := by decide +kernel
theorem d_Model_totals_123 : decode b_Model_totals 123 = .ok (.goto 4, 3) := by decide +kernel
theorem d_Model_totals_126 : decode b_Model_totals 126 = .ok (.iconst (-1), 1) := by decide +kernel
theorem d_Model_totals_127 : decode b_Model_totals 127 = .ok (.istore 8, 2) := by decide +kernel
theorem d_Model_totals_129 : decode b_Model_totals 129 = .ok (.iload 8, 2) := by decide +kernel
theorem d_Model_totals_131 : decode b_Model_totals 131 = .ok (.ifCond .lt 10, 3) := by decide +kernel
theorem d_Model_totals_134 : decode b_Model_totals 134 = .ok (.iload 8, 2) := by decide +kernel
theorem d_Model_totals_136 : decode b_Model_totals 136 = .ok (.iload 4, 2) := by decide +kernel
theorem d_Model_totals_138 : decode b_Model_totals 138 = .ok (.if_icmp .ne 8, 3) := by decide +kernel
theorem d_Model_totals_141 : decode b_Model_totals 141 = .ok (.iload 4, 2) := by decide +kernel
theorem d_Model_totals_143 : decode b_Model_totals 143 = .ok (.goto 16, 3) := by decide +kernel
theorem d_Model_totals_146 : decode b_Model_totals 146 = .ok (.iload 4, 2) := by decide +kernel
theorem d_Model_totals_148 : decode b_Model_totals 148 = .ok (.iconst (-1), 1) := by decide +kernel
theorem d_Model_totals_149 : decode b_Model_totals 149 = .ok (.if_icmp .ne 8, 3) := by decide +kernel
theorem d_Model_totals_152 : decode b_Model_totals 152 = .ok (.iload 8, 2) := by decide +kernel
theorem d_Model_totals_154 : decode b_Model_totals 154 = .ok (.goto 5, 3) := by decide +kernel
theorem d_Model_totals_157 : decode b_Model_totals 157 = .ok (.bipush (-2), 2) := by decide +kernel
theorem d_Model_totals_159 : decode b_Model_totals 159 = .ok (.istore 4, 2) := by decide +kernel
theorem d_Model_totals_161 : decode b_Model_totals 161 = .ok (.iinc 5 1, 3) := by decide +kernel
theorem d_Model_totals_164 : decode b_Model_totals 164 = .ok (.goto (-155), 3) := by decide +kernel
theorem d_Model_totals_167 : decode b_Model_totals 167 = .ok (.iload 4, 2) := by decide +kernel
theorem d_Model_totals_169 : decode b_Model_totals 169 = .ok (.ireturn, 1) := by decide +kernel
theorem v_Model_totals : Cond.instanceMethod y_Model_totals ∈ nm_Ts ∧ Cond.selects y_Model_totals.cls y_Model_totals y_Model_totals ∈ nm_Ts ∧ Cond.initialized y_Model_totals.cls ∈ nm_Ts ∧ Cond.code y_Model_totals b_Model_totals 9 (some .int) ∈ nm_Ts ∧ mz_cl1 y_Model_totals 3 := ⟨nm_t5 86 rfl rfl, nm_s 42 rfl rfl, nm_t1 12 rfl rfl, nm_t5 87 rfl rfl, by decide +kernel⟩
def y_Model_wheel : MethodName := ⟨"CardOfficeModel", "wheel", "(II)I"⟩
abbrev b_Model_wheel : ByteArray := prog_14_method_47_code
def r_Model_wheel (c s : Nat) : Room := { frames := 0, cells := c, slots := s, locals := 0 }
theorem d_Model_wheel_0 : decode b_Model_wheel 0 = .ok (.iload_n 1, 1) := by decide +kernel
theorem d_Model_wheel_1 : decode b_Model_wheel 1 = .ok (.istore_n 3, 1) := by decide +kernel
theorem d_Model_wheel_2 : decode b_Model_wheel 2 = .ok (.iconst 0, 1) := by decide +kernel
theorem d_Model_wheel_3 : decode b_Model_wheel 3 = .ok (.istore 4, 2) := by decide +kernel
theorem d_Model_wheel_5 : decode b_Model_wheel 5 = .ok (.iload 4, 2) := by decide +kernel
theorem d_Model_wheel_7 : decode b_Model_wheel 7 = .ok (.iload_n 2, 1) := by decide +kernel
theorem d_Model_wheel_8 : decode b_Model_wheel 8 = .ok (.if_icmp .ge 14, 3) := by decide +kernel
theorem d_Model_wheel_11 : decode b_Model_wheel 11 = .ok (.iload_n 3, 1) := by decide +kernel
theorem d_Model_wheel_12 : decode b_Model_wheel 12 = .ok (.bipush 10, 2) := by decide +kernel
theorem d_Model_wheel_14 : decode b_Model_wheel 14 = .ok (.idiv, 1) := by decide +kernel
theorem d_Model_wheel_15 : decode b_Model_wheel 15 = .ok (.istore_n 3, 1) := by decide +kernel
theorem d_Model_wheel_16 : decode b_Model_wheel 16 = .ok (.iinc 4 1, 3) := by decide +kernel
theorem d_Model_wheel_19 : decode b_Model_wheel 19 = .ok (.goto (-14), 3) := by decide +kernel
theorem d_Model_wheel_22 : decode b_Model_wheel 22 = .ok (.iload_n 3, 1) := by decide +kernel
theorem d_Model_wheel_23 : decode b_Model_wheel 23 = .ok (.ifCond .ne 12, 3) := by decide +kernel
theorem d_Model_wheel_26 : decode b_Model_wheel 26 = .ok (.iload_n 2, 1) := by decide +kernel
theorem d_Model_wheel_27 : decode b_Model_wheel 27 = .ok (.ifCond .le 8, 3) := by decide +kernel
theorem d_Model_wheel_30 : decode b_Model_wheel 30 = .ok (.bipush 32, 2) := by decide +kernel
theorem d_Model_wheel_32 : decode b_Model_wheel 32 = .ok (.goto 10, 3) := by decide +kernel
theorem d_Model_wheel_35 : decode b_Model_wheel 35 = .ok (.bipush 48, 2) := by decide +kernel
theorem d_Model_wheel_37 : decode b_Model_wheel 37 = .ok (.iload_n 3, 1) := by decide +kernel
theorem d_Model_wheel_38 : decode b_Model_wheel 38 = .ok (.bipush 10, 2) := by decide +kernel
theorem d_Model_wheel_40 : decode b_Model_wheel 40 = .ok (.irem, 1) := by decide +kernel
theorem d_Model_wheel_41 : decode b_Model_wheel 41 = .ok (.iadd, 1) := by decide +kernel
theorem d_Model_wheel_42 : decode b_Model_wheel 42 = .ok (.ireturn, 1) := by decide +kernel
theorem v_Model_wheel : Cond.instanceMethod y_Model_wheel ∈ nm_Ts ∧ Cond.selects y_Model_wheel.cls y_Model_wheel y_Model_wheel ∈ nm_Ts ∧ Cond.initialized y_Model_wheel.cls ∈ nm_Ts ∧ Cond.code y_Model_wheel b_Model_wheel 5 (some .int) ∈ nm_Ts ∧ mz_cl1 y_Model_wheel 2 := ⟨nm_t5 90 rfl rfl, nm_s 43 rfl rfl, nm_t1 12 rfl rfl, nm_t5 91 rfl rfl, by decide +kernel⟩
def y_Model_hasLevel : MethodName := ⟨"CardOfficeModel", "hasLevel", "(II)Z"⟩
abbrev b_Model_hasLevel : ByteArray := prog_14_method_46_code
def r_Model_hasLevel (c s : Nat) : Room := { frames := 0, cells := c, slots := s, locals := 0 }
theorem d_Model_hasLevel_0 : decode b_Model_hasLevel 0 = .ok (.iconst 0, 1) := by decide +kernel
theorem d_Model_hasLevel_1 : decode b_Model_hasLevel 1 = .ok (.istore_n 3, 1) := by decide +kernel
theorem d_Model_hasLevel_2 : decode b_Model_hasLevel 2 = .ok (.iconst 0, 1) := by decide +kernel
theorem d_Model_hasLevel_3 : decode b_Model_hasLevel 3 = .ok (.istore 4, 2) := by decide +kernel
theorem d_Model_hasLevel_5 : decode b_Model_hasLevel 5 = .ok (.iload 4, 2) := by decide +kernel
theorem d_Model_hasLevel_7 : decode b_Model_hasLevel 7 = .ok (.iconst 4, 1) := by decide +kernel
theorem d_Model_hasLevel_8 : decode b_Model_hasLevel 8 = .ok (.if_icmp .ge 34, 3) := by decide +kernel
theorem d_Model_hasLevel_11 : decode b_Model_hasLevel 11 = .ok (.iload_n 3, 1) := by decide +kernel
theorem d_Model_hasLevel_12 : decode b_Model_hasLevel 12 = .ok (.ifCond .ne 18, 3) := by decide +kernel
theorem d_Model_hasLevel_15 : decode b_Model_hasLevel 15 = .ok (.aload_n 0, 1) := by decide +kernel
theorem d_Model_hasLevel_16 : decode b_Model_hasLevel 16 = .ok (.getfield 36, 3) := by decide +kernel
theorem d_Model_hasLevel_19 : decode b_Model_hasLevel 19 = .ok (.iconst 4, 1) := by decide +kernel
theorem d_Model_hasLevel_20 : decode b_Model_hasLevel 20 = .ok (.iload_n 1, 1) := by decide +kernel
theorem d_Model_hasLevel_21 : decode b_Model_hasLevel 21 = .ok (.imul, 1) := by decide +kernel
theorem d_Model_hasLevel_22 : decode b_Model_hasLevel 22 = .ok (.iload 4, 2) := by decide +kernel
theorem d_Model_hasLevel_24 : decode b_Model_hasLevel 24 = .ok (.iadd, 1) := by decide +kernel
theorem d_Model_hasLevel_25 : decode b_Model_hasLevel 25 = .ok (.iaload, 1) := by decide +kernel
theorem d_Model_hasLevel_26 : decode b_Model_hasLevel 26 = .ok (.iload_n 2, 1) := by decide +kernel
theorem d_Model_hasLevel_27 : decode b_Model_hasLevel 27 = .ok (.if_icmp .ne 7, 3) := by decide +kernel
theorem d_Model_hasLevel_30 : decode b_Model_hasLevel 30 = .ok (.iconst 1, 1) := by decide +kernel
theorem d_Model_hasLevel_31 : decode b_Model_hasLevel 31 = .ok (.goto 4, 3) := by decide +kernel
theorem d_Model_hasLevel_34 : decode b_Model_hasLevel 34 = .ok (.iconst 0, 1) := by decide +kernel
theorem d_Model_hasLevel_35 : decode b_Model_hasLevel 35 = .ok (.istore_n 3, 1) := by decide +kernel
theorem d_Model_hasLevel_36 : decode b_Model_hasLevel 36 = .ok (.iinc 4 1, 3) := by decide +kernel
theorem d_Model_hasLevel_39 : decode b_Model_hasLevel 39 = .ok (.goto (-34), 3) := by decide +kernel
theorem d_Model_hasLevel_42 : decode b_Model_hasLevel 42 = .ok (.iload_n 3, 1) := by decide +kernel
theorem d_Model_hasLevel_43 : decode b_Model_hasLevel 43 = .ok (.ireturn, 1) := by decide +kernel
theorem v_Model_hasLevel : Cond.instanceMethod y_Model_hasLevel ∈ nm_Ts ∧ Cond.selects y_Model_hasLevel.cls y_Model_hasLevel y_Model_hasLevel ∈ nm_Ts ∧ Cond.initialized y_Model_hasLevel.cls ∈ nm_Ts ∧ Cond.code y_Model_hasLevel b_Model_hasLevel 5 (some .boolean) ∈ nm_Ts ∧ mz_cl1 y_Model_hasLevel 2 := ⟨nm_t5 94 rfl rfl, nm_s 44 rfl rfl, nm_t1 12 rfl rfl, nm_t5 95 rfl rfl, by decide +kernel⟩
def y_Model_tabulateCard : MethodName := ⟨"CardOfficeModel", "tabulateCard", "(III)V"⟩
abbrev b_Model_tabulateCard : ByteArray := prog_14_method_55_code
def r_Model_tabulateCard (c s : Nat) : Room := { frames := 3, cells := c, slots := s, locals := 75 }
theorem d_Model_tabulateCard_0 : decode b_Model_tabulateCard 0 = .ok (.iconst 0, 1) := by decide +kernel
theorem d_Model_tabulateCard_1 : decode b_Model_tabulateCard 1 = .ok (.istore 4, 2) := by decide +kernel
theorem d_Model_tabulateCard_3 : decode b_Model_tabulateCard 3 = .ok (.iload 4, 2) := by decide +kernel
theorem d_Model_tabulateCard_5 : decode b_Model_tabulateCard 5 = .ok (.iload_n 3, 1) := by decide +kernel
theorem d_Model_tabulateCard_6 : decode b_Model_tabulateCard 6 = .ok (.if_icmp .ge 16, 3) := by decide +kernel
theorem d_Model_tabulateCard_9 : decode b_Model_tabulateCard 9 = .ok (.aload_n 0, 1) := by decide +kernel
theorem d_Model_tabulateCard_10 : decode b_Model_tabulateCard 10 = .ok (.iload_n 1, 1) := by decide +kernel
theorem d_Model_tabulateCard_11 : decode b_Model_tabulateCard 11 = .ok (.iload 4, 2) := by decide +kernel
theorem d_Model_tabulateCard_13 : decode b_Model_tabulateCard 13 = .ok (.invokevirtual 207, 3) := by decide +kernel
theorem d_Model_tabulateCard_16 : decode b_Model_tabulateCard 16 = .ok (.iinc 4 1, 3) := by decide +kernel
theorem d_Model_tabulateCard_19 : decode b_Model_tabulateCard 19 = .ok (.goto (-16), 3) := by decide +kernel
theorem d_Model_tabulateCard_22 : decode b_Model_tabulateCard 22 = .ok (.aload_n 0, 1) := by decide +kernel
theorem d_Model_tabulateCard_23 : decode b_Model_tabulateCard 23 = .ok (.iload_n 1, 1) := by decide +kernel
theorem d_Model_tabulateCard_24 : decode b_Model_tabulateCard 24 = .ok (.invokevirtual 197, 3) := by decide +kernel
theorem d_Model_tabulateCard_27 : decode b_Model_tabulateCard 27 = .ok (.ifCond .eq 46, 3) := by decide +kernel
theorem d_Model_tabulateCard_30 : decode b_Model_tabulateCard 30 = .ok (.iconst 0, 1) := by decide +kernel
theorem d_Model_tabulateCard_31 : decode b_Model_tabulateCard 31 = .ok (.istore 4, 2) := by decide +kernel
theorem d_Model_tabulateCard_33 : decode b_Model_tabulateCard 33 = .ok (.iload 4, 2) := by decide +kernel
theorem d_Model_tabulateCard_35 : decode b_Model_tabulateCard 35 = .ok (.bipush 24, 2) := by decide +kernel
theorem d_Model_tabulateCard_37 : decode b_Model_tabulateCard 37 = .ok (.if_icmp .ge 26, 3) := by decide +kernel
theorem d_Model_tabulateCard_40 : decode b_Model_tabulateCard 40 = .ok (.aload_n 0, 1) := by decide +kernel
theorem d_Model_tabulateCard_41 : decode b_Model_tabulateCard 41 = .ok (.iload 4, 2) := by decide +kernel
theorem d_Model_tabulateCard_43 : decode b_Model_tabulateCard 43 = .ok (.aload_n 0, 1) := by decide +kernel
theorem d_Model_tabulateCard_44 : decode b_Model_tabulateCard 44 = .ok (.iload_n 1, 1) := by decide +kernel
theorem d_Model_tabulateCard_45 : decode b_Model_tabulateCard 45 = .ok (.bipush 32, 2) := by decide +kernel
theorem d_Model_tabulateCard_47 : decode b_Model_tabulateCard 47 = .ok (.iload 4, 2) := by decide +kernel
theorem d_Model_tabulateCard_49 : decode b_Model_tabulateCard 49 = .ok (.iadd, 1) := by decide +kernel
theorem d_Model_tabulateCard_50 : decode b_Model_tabulateCard 50 = .ok (.iload_n 2, 1) := by decide +kernel
theorem d_Model_tabulateCard_51 : decode b_Model_tabulateCard 51 = .ok (.invokevirtual 151, 3) := by decide +kernel
theorem d_Model_tabulateCard_54 : decode b_Model_tabulateCard 54 = .ok (.invokevirtual 194, 3) := by decide +kernel
theorem d_Model_tabulateCard_57 : decode b_Model_tabulateCard 57 = .ok (.iinc 4 1, 3) := by decide +kernel
theorem d_Model_tabulateCard_60 : decode b_Model_tabulateCard 60 = .ok (.goto (-27), 3) := by decide +kernel
theorem d_Model_tabulateCard_63 : decode b_Model_tabulateCard 63 = .ok (.aload_n 0, 1) := by decide +kernel
theorem d_Model_tabulateCard_64 : decode b_Model_tabulateCard 64 = .ok (.dup, 1) := by decide +kernel
theorem d_Model_tabulateCard_65 : decode b_Model_tabulateCard 65 = .ok (.getfield 188, 3) := by decide +kernel
theorem d_Model_tabulateCard_68 : decode b_Model_tabulateCard 68 = .ok (.iconst 1, 1) := by decide +kernel
theorem d_Model_tabulateCard_69 : decode b_Model_tabulateCard 69 = .ok (.iadd, 1) := by decide +kernel
theorem d_Model_tabulateCard_70 : decode b_Model_tabulateCard 70 = .ok (.putfield 188, 3) := by decide +kernel
theorem d_Model_tabulateCard_73 : decode b_Model_tabulateCard 73 = .ok (.iconst 0, 1) := by decide +kernel
theorem d_Model_tabulateCard_74 : decode b_Model_tabulateCard 74 = .ok (.istore 4, 2) := by decide +kernel
theorem d_Model_tabulateCard_76 : decode b_Model_tabulateCard 76 = .ok (.iload 4, 2) := by decide +kernel
theorem d_Model_tabulateCard_78 : decode b_Model_tabulateCard 78 = .ok (.iconst 4, 1) := by decide +kernel
theorem d_Model_tabulateCard_79 : decode b_Model_tabulateCard 79 = .ok (.if_icmp .ge 23, 3) := by decide +kernel
theorem d_Model_tabulateCard_82 : decode b_Model_tabulateCard 82 = .ok (.aload_n 0, 1) := by decide +kernel
theorem d_Model_tabulateCard_83 : decode b_Model_tabulateCard 83 = .ok (.getfield 39, 3) := by decide +kernel
theorem d_Model_tabulateCard_86 : decode b_Model_tabulateCard 86 = .ok (.iload 4, 2) := by decide +kernel
theorem d_Model_tabulateCard_88 : decode b_Model_tabulateCard 88 = .ok (.aload_n 0, 1) := by decide +kernel
theorem d_Model_tabulateCard_89 : decode b_Model_tabulateCard 89 = .ok (.getfield 42, 3) := by decide +kernel
theorem d_Model_tabulateCard_92 : decode b_Model_tabulateCard 92 = .ok (.iload 4, 2) := by decide +kernel
theorem d_Model_tabulateCard_94 : decode b_Model_tabulateCard 94 = .ok (.iaload, 1) := by decide +kernel
theorem d_Model_tabulateCard_95 : decode b_Model_tabulateCard 95 = .ok (.iastore, 1) := by decide +kernel
theorem d_Model_tabulateCard_96 : decode b_Model_tabulateCard 96 = .ok (.iinc 4 1, 3) := by decide +kernel
theorem d_Model_tabulateCard_99 : decode b_Model_tabulateCard 99 = .ok (.goto (-23), 3) := by decide +kernel
theorem d_Model_tabulateCard_102 : decode b_Model_tabulateCard 102 = .ok (.return_, 1) := by decide +kernel
theorem v_Model_tabulateCard : Cond.instanceMethod y_Model_tabulateCard ∈ nm_Ts ∧ Cond.selects y_Model_tabulateCard.cls y_Model_tabulateCard y_Model_tabulateCard ∈ nm_Ts ∧ Cond.initialized y_Model_tabulateCard.cls ∈ nm_Ts ∧ Cond.code y_Model_tabulateCard b_Model_tabulateCard 5 none ∈ nm_Ts ∧ mz_cl1 y_Model_tabulateCard 3 := ⟨nm_t5 99 rfl rfl, nm_s 45 rfl rfl, nm_t1 12 rfl rfl, nm_t5 100 rfl rfl, by decide +kernel⟩
def y_Model_total : MethodName := ⟨"CardOfficeModel", "total", "(II)V"⟩
abbrev b_Model_total : ByteArray := prog_14_method_52_code
def r_Model_total (c s : Nat) : Room := { frames := 2, cells := c, slots := s, locals := 52 }
theorem d_Model_total_0 : decode b_Model_total 0 = .ok (.aload_n 0, 1) := by decide +kernel
theorem d_Model_total_1 : decode b_Model_total 1 = .ok (.iload_n 1, 1) := by decide +kernel
theorem d_Model_total_2 : decode b_Model_total 2 = .ok (.iload_n 2, 1) := by decide +kernel
theorem d_Model_total_3 : decode b_Model_total 3 = .ok (.invokevirtual 191, 3) := by decide +kernel
theorem d_Model_total_6 : decode b_Model_total 6 = .ok (.ifCond .ne 4, 3) := by decide +kernel
theorem d_Model_total_9 : decode b_Model_total 9 = .ok (.return_, 1) := by decide +kernel
theorem d_Model_total_10 : decode b_Model_total 10 = .ok (.iconst 0, 1) := by decide +kernel
theorem d_Model_total_11 : decode b_Model_total 11 = .ok (.istore_n 3, 1) := by decide +kernel
theorem d_Model_total_12 : decode b_Model_total 12 = .ok (.iload_n 3, 1) := by decide +kernel
theorem d_Model_total_13 : decode b_Model_total 13 = .ok (.bipush 24, 2) := by decide +kernel
theorem d_Model_total_15 : decode b_Model_total 15 = .ok (.if_icmp .ge 21, 3) := by decide +kernel
theorem d_Model_total_18 : decode b_Model_total 18 = .ok (.aload_n 0, 1) := by decide +kernel
theorem d_Model_total_19 : decode b_Model_total 19 = .ok (.iload_n 3, 1) := by decide +kernel
theorem d_Model_total_20 : decode b_Model_total 20 = .ok (.aload_n 0, 1) := by decide +kernel
theorem d_Model_total_21 : decode b_Model_total 21 = .ok (.iload_n 1, 1) := by decide +kernel
theorem d_Model_total_22 : decode b_Model_total 22 = .ok (.iload_n 2, 1) := by decide +kernel
theorem d_Model_total_23 : decode b_Model_total 23 = .ok (.iload_n 3, 1) := by decide +kernel
theorem d_Model_total_24 : decode b_Model_total 24 = .ok (.invokevirtual 185, 3) := by decide +kernel
theorem d_Model_total_27 : decode b_Model_total 27 = .ok (.invokevirtual 194, 3) := by decide +kernel
theorem d_Model_total_30 : decode b_Model_total 30 = .ok (.iinc 3 1, 3) := by decide +kernel
theorem d_Model_total_33 : decode b_Model_total 33 = .ok (.goto (-21), 3) := by decide +kernel
theorem d_Model_total_36 : decode b_Model_total 36 = .ok (.aload_n 0, 1) := by decide +kernel
theorem d_Model_total_37 : decode b_Model_total 37 = .ok (.dup, 1) := by decide +kernel
theorem d_Model_total_38 : decode b_Model_total 38 = .ok (.getfield 188, 3) := by decide +kernel
theorem d_Model_total_41 : decode b_Model_total 41 = .ok (.iconst 1, 1) := by decide +kernel
theorem d_Model_total_42 : decode b_Model_total 42 = .ok (.iadd, 1) := by decide +kernel
theorem d_Model_total_43 : decode b_Model_total 43 = .ok (.putfield 188, 3) := by decide +kernel
theorem d_Model_total_46 : decode b_Model_total 46 = .ok (.iconst 0, 1) := by decide +kernel
theorem d_Model_total_47 : decode b_Model_total 47 = .ok (.istore_n 3, 1) := by decide +kernel
theorem d_Model_total_48 : decode b_Model_total 48 = .ok (.iload_n 3, 1) := by decide +kernel
theorem d_Model_total_49 : decode b_Model_total 49 = .ok (.iconst 4, 1) := by decide +kernel
theorem d_Model_total_50 : decode b_Model_total 50 = .ok (.if_icmp .ge 39, 3) := by decide +kernel
theorem d_Model_total_53 : decode b_Model_total 53 = .ok (.aload_n 0, 1) := by decide +kernel
theorem d_Model_total_54 : decode b_Model_total 54 = .ok (.getfield 39, 3) := by decide +kernel
theorem d_Model_total_57 : decode b_Model_total 57 = .ok (.iload_n 3, 1) := by decide +kernel
theorem d_Model_total_58 : decode b_Model_total 58 = .ok (.aload_n 0, 1) := by decide +kernel
theorem d_Model_total_59 : decode b_Model_total 59 = .ok (.getfield 36, 3) := by decide +kernel
theorem d_Model_total_62 : decode b_Model_total 62 = .ok (.iconst 4, 1) := by decide +kernel
theorem d_Model_total_63 : decode b_Model_total 63 = .ok (.iload_n 1, 1) := by decide +kernel
theorem d_Model_total_64 : decode b_Model_total 64 = .ok (.imul, 1) := by decide +kernel
theorem d_Model_total_65 : decode b_Model_total 65 = .ok (.iload_n 3, 1) := by decide +kernel
theorem d_Model_total_66 : decode b_Model_total 66 = .ok (.iadd, 1) := by decide +kernel
theorem d_Model_total_67 : decode b_Model_total 67 = .ok (.iaload, 1) := by decide +kernel
theorem d_Model_total_68 : decode b_Model_total 68 = .ok (.iload_n 2, 1) := by decide +kernel
theorem d_Model_total_69 : decode b_Model_total 69 = .ok (.if_icmp .ne 7, 3) := by decide +kernel
theorem d_Model_total_72 : decode b_Model_total 72 = .ok (.iconst 0, 1) := by decide +kernel
theorem d_Model_total_73 : decode b_Model_total 73 = .ok (.goto 9, 3) := by decide +kernel
theorem d_Model_total_76 : decode b_Model_total 76 = .ok (.aload_n 0, 1) := by decide +kernel
theorem d_Model_total_77 : decode b_Model_total 77 = .ok (.getfield 39, 3) := by decide +kernel
theorem d_Model_total_80 : decode b_Model_total 80 = .ok (.iload_n 3, 1) := by decide +kernel
theorem d_Model_total_81 : decode b_Model_total 81 = .ok (.iaload, 1) := by decide +kernel
theorem d_Model_total_82 : decode b_Model_total 82 = .ok (.iastore, 1) := by decide +kernel
theorem d_Model_total_83 : decode b_Model_total 83 = .ok (.iinc 3 1, 3) := by decide +kernel
theorem d_Model_total_86 : decode b_Model_total 86 = .ok (.goto (-38), 3) := by decide +kernel
theorem d_Model_total_89 : decode b_Model_total 89 = .ok (.return_, 1) := by decide +kernel
theorem v_Model_total : Cond.instanceMethod y_Model_total ∈ nm_Ts ∧ Cond.selects y_Model_total.cls y_Model_total y_Model_total ∈ nm_Ts ∧ Cond.initialized y_Model_total.cls ∈ nm_Ts ∧ Cond.code y_Model_total b_Model_total 4 none ∈ nm_Ts ∧ mz_cl1 y_Model_total 2 := ⟨nm_t5 103 rfl rfl, nm_s 46 rfl rfl, nm_t1 12 rfl rfl, nm_t5 104 rfl rfl, by decide +kernel⟩
def y_Model_print : MethodName := ⟨"CardOfficeModel", "print", "(II)V"⟩
abbrev b_Model_print : ByteArray := prog_14_method_51_code
def r_Model_print (c s : Nat) : Room := { frames := 0, cells := c, slots := s, locals := 0 }
theorem d_Model_print_0 : decode b_Model_print 0 = .ok (.aload_n 0, 1) := by decide +kernel
theorem d_Model_print_1 : decode b_Model_print 1 = .ok (.getfield 45, 3) := by decide +kernel
theorem d_Model_print_4 : decode b_Model_print 4 = .ok (.bipush 24, 2) := by decide +kernel
theorem d_Model_print_6 : decode b_Model_print 6 = .ok (.aload_n 0, 1) := by decide +kernel
theorem d_Model_print_7 : decode b_Model_print 7 = .ok (.getfield 188, 3) := by decide +kernel
theorem d_Model_print_10 : decode b_Model_print 10 = .ok (.imul, 1) := by decide +kernel
theorem d_Model_print_11 : decode b_Model_print 11 = .ok (.iload_n 1, 1) := by decide +kernel
theorem d_Model_print_12 : decode b_Model_print 12 = .ok (.iadd, 1) := by decide +kernel
theorem d_Model_print_13 : decode b_Model_print 13 = .ok (.iload_n 2, 1) := by decide +kernel
theorem d_Model_print_14 : decode b_Model_print 14 = .ok (.ifCond .ge 8, 3) := by decide +kernel
theorem d_Model_print_17 : decode b_Model_print 17 = .ok (.bipush 32, 2) := by decide +kernel
theorem d_Model_print_19 : decode b_Model_print 19 = .ok (.goto 4, 3) := by decide +kernel
theorem d_Model_print_22 : decode b_Model_print 22 = .ok (.iload_n 2, 1) := by decide +kernel
theorem d_Model_print_23 : decode b_Model_print 23 = .ok (.i2b, 1) := by decide +kernel
theorem d_Model_print_24 : decode b_Model_print 24 = .ok (.bastore, 1) := by decide +kernel
theorem d_Model_print_25 : decode b_Model_print 25 = .ok (.return_, 1) := by decide +kernel
theorem v_Model_print : Cond.instanceMethod y_Model_print ∈ nm_Ts ∧ Cond.selects y_Model_print.cls y_Model_print y_Model_print ∈ nm_Ts ∧ Cond.initialized y_Model_print.cls ∈ nm_Ts ∧ Cond.code y_Model_print b_Model_print 3 none ∈ nm_Ts ∧ mz_cl1 y_Model_print 2 := ⟨nm_t5 107 rfl rfl, nm_s 47 rfl rfl, nm_t1 12 rfl rfl, nm_t5 108 rfl rfl, by decide +kernel⟩
def y_Model_faultOfEnd : MethodName := ⟨"CardOfficeModel", "faultOfEnd", "(I)I"⟩
abbrev b_Model_faultOfEnd : ByteArray := prog_14_method_56_code
def r_Model_faultOfEnd (c s : Nat) : Room := { frames := 3, cells := c, slots := s, locals := 76 }
theorem d_Model_faultOfEnd_0 : decode b_Model_faultOfEnd 0 = .ok (.iconst 0, 1) := by decide +kernel
theorem d_Model_faultOfEnd_1 : decode b_Model_faultOfEnd 1 = .ok (.istore_n 2, 1) := by decide +kernel
theorem d_Model_faultOfEnd_2 : decode b_Model_faultOfEnd 2 = .ok (.iconst 0, 1) := by decide +kernel
theorem d_Model_faultOfEnd_3 : decode b_Model_faultOfEnd 3 = .ok (.istore_n 3, 1) := by decide +kernel
theorem d_Model_faultOfEnd_4 : decode b_Model_faultOfEnd 4 = .ok (.iconst 0, 1) := by decide +kernel
theorem d_Model_faultOfEnd_5 : decode b_Model_faultOfEnd 5 = .ok (.istore 4, 2) := by decide +kernel
theorem d_Model_faultOfEnd_7 : decode b_Model_faultOfEnd 7 = .ok (.iload 4, 2) := by decide +kernel
theorem d_Model_faultOfEnd_9 : decode b_Model_faultOfEnd 9 = .ok (.iconst 4, 1) := by decide +kernel
theorem d_Model_faultOfEnd_10 : decode b_Model_faultOfEnd 10 = .ok (.if_icmp .ge 47, 3) := by decide +kernel
theorem d_Model_faultOfEnd_13 : decode b_Model_faultOfEnd 13 = .ok (.iload_n 2, 1) := by decide +kernel
theorem d_Model_faultOfEnd_14 : decode b_Model_faultOfEnd 14 = .ok (.ifCond .ne 13, 3) := by decide +kernel
theorem d_Model_faultOfEnd_17 : decode b_Model_faultOfEnd 17 = .ok (.aload_n 0, 1) := by decide +kernel
theorem d_Model_faultOfEnd_18 : decode b_Model_faultOfEnd 18 = .ok (.iload_n 1, 1) := by decide +kernel
theorem d_Model_faultOfEnd_19 : decode b_Model_faultOfEnd 19 = .ok (.iload 4, 2) := by decide +kernel
theorem d_Model_faultOfEnd_21 : decode b_Model_faultOfEnd 21 = .ok (.invokevirtual 203, 3) := by decide +kernel
theorem d_Model_faultOfEnd_24 : decode b_Model_faultOfEnd 24 = .ok (.ifCond .eq 7, 3) := by decide +kernel
theorem d_Model_faultOfEnd_27 : decode b_Model_faultOfEnd 27 = .ok (.iconst 1, 1) := by decide +kernel
theorem d_Model_faultOfEnd_28 : decode b_Model_faultOfEnd 28 = .ok (.goto 4, 3) := by decide +kernel
theorem d_Model_faultOfEnd_31 : decode b_Model_faultOfEnd 31 = .ok (.iconst 0, 1) := by decide +kernel
theorem d_Model_faultOfEnd_32 : decode b_Model_faultOfEnd 32 = .ok (.istore_n 2, 1) := by decide +kernel
theorem d_Model_faultOfEnd_33 : decode b_Model_faultOfEnd 33 = .ok (.iload_n 3, 1) := by decide +kernel
theorem d_Model_faultOfEnd_34 : decode b_Model_faultOfEnd 34 = .ok (.aload_n 0, 1) := by decide +kernel
theorem d_Model_faultOfEnd_35 : decode b_Model_faultOfEnd 35 = .ok (.iload_n 1, 1) := by decide +kernel
theorem d_Model_faultOfEnd_36 : decode b_Model_faultOfEnd 36 = .ok (.iload 4, 2) := by decide +kernel
theorem d_Model_faultOfEnd_38 : decode b_Model_faultOfEnd 38 = .ok (.invokevirtual 191, 3) := by decide +kernel
theorem d_Model_faultOfEnd_41 : decode b_Model_faultOfEnd 41 = .ok (.ifCond .eq 7, 3) := by decide +kernel
theorem d_Model_faultOfEnd_44 : decode b_Model_faultOfEnd 44 = .ok (.iconst 1, 1) := by decide +kernel
theorem d_Model_faultOfEnd_45 : decode b_Model_faultOfEnd 45 = .ok (.goto 4, 3) := by decide +kernel
theorem d_Model_faultOfEnd_48 : decode b_Model_faultOfEnd 48 = .ok (.iconst 0, 1) := by decide +kernel
theorem d_Model_faultOfEnd_49 : decode b_Model_faultOfEnd 49 = .ok (.iadd, 1) := by decide +kernel
theorem d_Model_faultOfEnd_50 : decode b_Model_faultOfEnd 50 = .ok (.istore_n 3, 1) := by decide +kernel
theorem d_Model_faultOfEnd_51 : decode b_Model_faultOfEnd 51 = .ok (.iinc 4 1, 3) := by decide +kernel
theorem d_Model_faultOfEnd_54 : decode b_Model_faultOfEnd 54 = .ok (.goto (-47), 3) := by decide +kernel
theorem d_Model_faultOfEnd_57 : decode b_Model_faultOfEnd 57 = .ok (.iload_n 2, 1) := by decide +kernel
theorem d_Model_faultOfEnd_58 : decode b_Model_faultOfEnd 58 = .ok (.ifCond .eq 7, 3) := by decide +kernel
theorem d_Model_faultOfEnd_61 : decode b_Model_faultOfEnd 61 = .ok (.iconst 2, 1) := by decide +kernel
theorem d_Model_faultOfEnd_62 : decode b_Model_faultOfEnd 62 = .ok (.goto 19, 3) := by decide +kernel
theorem d_Model_faultOfEnd_65 : decode b_Model_faultOfEnd 65 = .ok (.aload_n 0, 1) := by decide +kernel
theorem d_Model_faultOfEnd_66 : decode b_Model_faultOfEnd 66 = .ok (.getfield 188, 3) := by decide +kernel
theorem d_Model_faultOfEnd_69 : decode b_Model_faultOfEnd 69 = .ok (.iload_n 3, 1) := by decide +kernel
theorem d_Model_faultOfEnd_70 : decode b_Model_faultOfEnd 70 = .ok (.iadd, 1) := by decide +kernel
theorem d_Model_faultOfEnd_71 : decode b_Model_faultOfEnd 71 = .ok (.bipush 100, 2) := by decide +kernel
theorem d_Model_faultOfEnd_73 : decode b_Model_faultOfEnd 73 = .ok (.if_icmp .le 7, 3) := by decide +kernel
theorem d_Model_faultOfEnd_76 : decode b_Model_faultOfEnd 76 = .ok (.iconst 4, 1) := by decide +kernel
theorem d_Model_faultOfEnd_77 : decode b_Model_faultOfEnd 77 = .ok (.goto 4, 3) := by decide +kernel
theorem d_Model_faultOfEnd_80 : decode b_Model_faultOfEnd 80 = .ok (.iconst 0, 1) := by decide +kernel
theorem d_Model_faultOfEnd_81 : decode b_Model_faultOfEnd 81 = .ok (.ireturn, 1) := by decide +kernel
theorem v_Model_faultOfEnd : Cond.instanceMethod y_Model_faultOfEnd ∈ nm_Ts ∧ Cond.selects y_Model_faultOfEnd.cls y_Model_faultOfEnd y_Model_faultOfEnd ∈ nm_Ts ∧ Cond.initialized y_Model_faultOfEnd.cls ∈ nm_Ts ∧ Cond.code y_Model_faultOfEnd b_Model_faultOfEnd 5 (some .int) ∈ nm_Ts ∧ mz_cl1 y_Model_faultOfEnd 1 := ⟨nm_t5 111 rfl rfl, nm_s 48 rfl rfl, nm_t1 12 rfl rfl, nm_t5 112 rfl rfl, by decide +kernel⟩
def y_Model_cut : MethodName := ⟨"CardOfficeModel", "cut", "(III)Z"⟩
abbrev b_Model_cut : ByteArray := prog_14_method_58_code
def r_Model_cut (c s : Nat) : Room := { frames := 1, cells := c, slots := s, locals := 22 }
theorem d_Model_cut_0 : decode b_Model_cut 0 = .ok (.aload_n 0, 1) := by decide +kernel
theorem d_Model_cut_1 : decode b_Model_cut 1 = .ok (.iconst 0, 1) := by decide +kernel
theorem d_Model_cut_2 : decode b_Model_cut 2 = .ok (.putfield 52, 3) := by decide +kernel
theorem d_Model_cut_5 : decode b_Model_cut 5 = .ok (.iload_n 1, 1) := by decide +kernel
theorem d_Model_cut_6 : decode b_Model_cut 6 = .ok (.invokestatic 65, 3) := by decide +kernel
theorem d_Model_cut_9 : decode b_Model_cut 9 = .ok (.ifCond .eq 29, 3) := by decide +kernel
theorem d_Model_cut_12 : decode b_Model_cut 12 = .ok (.iload_n 3, 1) := by decide +kernel
theorem d_Model_cut_13 : decode b_Model_cut 13 = .ok (.invokestatic 65, 3) := by decide +kernel
theorem d_Model_cut_16 : decode b_Model_cut 16 = .ok (.ifCond .eq 22, 3) := by decide +kernel
theorem d_Model_cut_19 : decode b_Model_cut 19 = .ok (.iload_n 1, 1) := by decide +kernel
theorem d_Model_cut_20 : decode b_Model_cut 20 = .ok (.iload_n 3, 1) := by decide +kernel
theorem d_Model_cut_21 : decode b_Model_cut 21 = .ok (.if_icmp .eq 17, 3) := by decide +kernel
theorem d_Model_cut_24 : decode b_Model_cut 24 = .ok (.iload_n 2, 1) := by decide +kernel
theorem d_Model_cut_25 : decode b_Model_cut 25 = .ok (.ifCond .lt 13, 3) := by decide +kernel
theorem d_Model_cut_28 : decode b_Model_cut 28 = .ok (.iload_n 2, 1) := by decide +kernel
theorem d_Model_cut_29 : decode b_Model_cut 29 = .ok (.aload_n 0, 1) := by decide +kernel
theorem d_Model_cut_30 : decode b_Model_cut 30 = .ok (.getfield 17, 3) := by decide +kernel
theorem d_Model_cut_33 : decode b_Model_cut 33 = .ok (.iload_n 1, 1) := by decide +kernel
theorem d_Model_cut_34 : decode b_Model_cut 34 = .ok (.iaload, 1) := by decide +kernel
theorem d_Model_cut_35 : decode b_Model_cut 35 = .ok (.if_icmp .le 5, 3) := by decide +kernel
theorem d_Model_cut_38 : decode b_Model_cut 38 = .ok (.iconst 0, 1) := by decide +kernel
theorem d_Model_cut_39 : decode b_Model_cut 39 = .ok (.ireturn, 1) := by decide +kernel
theorem d_Model_cut_40 : decode b_Model_cut 40 = .ok (.iconst 0, 1) := by decide +kernel
theorem d_Model_cut_41 : decode b_Model_cut 41 = .ok (.istore 4, 2) := by decide +kernel
theorem d_Model_cut_43 : decode b_Model_cut 43 = .ok (.iload 4, 2) := by decide +kernel
theorem d_Model_cut_45 : decode b_Model_cut 45 = .ok (.iload_n 2, 1) := by decide +kernel
theorem d_Model_cut_46 : decode b_Model_cut 46 = .ok (.if_icmp .ge 21, 3) := by decide +kernel
theorem d_Model_cut_49 : decode b_Model_cut 49 = .ok (.aload_n 0, 1) := by decide +kernel
theorem d_Model_cut_50 : decode b_Model_cut 50 = .ok (.iload_n 3, 1) := by decide +kernel
theorem d_Model_cut_51 : decode b_Model_cut 51 = .ok (.aload_n 0, 1) := by decide +kernel
theorem d_Model_cut_52 : decode b_Model_cut 52 = .ok (.iload_n 1, 1) := by decide +kernel
theorem d_Model_cut_53 : decode b_Model_cut 53 = .ok (.iload 4, 2) := by decide +kernel
theorem d_Model_cut_55 : decode b_Model_cut 55 = .ok (.invokevirtual 98, 3) := by decide +kernel
theorem d_Model_cut_58 : decode b_Model_cut 58 = .ok (.invokevirtual 78, 3) := by decide +kernel
theorem d_Model_cut_61 : decode b_Model_cut 61 = .ok (.iinc 4 1, 3) := by decide +kernel
theorem d_Model_cut_64 : decode b_Model_cut 64 = .ok (.goto (-21), 3) := by decide +kernel
theorem d_Model_cut_67 : decode b_Model_cut 67 = .ok (.aload_n 0, 1) := by decide +kernel
theorem d_Model_cut_68 : decode b_Model_cut 68 = .ok (.getfield 17, 3) := by decide +kernel
theorem d_Model_cut_71 : decode b_Model_cut 71 = .ok (.iload_n 1, 1) := by decide +kernel
theorem d_Model_cut_72 : decode b_Model_cut 72 = .ok (.dup2, 1) := by decide +kernel
theorem d_Model_cut_73 : decode b_Model_cut 73 = .ok (.iaload, 1) := by decide +kernel
theorem d_Model_cut_74 : decode b_Model_cut 74 = .ok (.iload_n 2, 1) := by decide +kernel
theorem d_Model_cut_75 : decode b_Model_cut 75 = .ok (.isub, 1) := by decide +kernel
theorem d_Model_cut_76 : decode b_Model_cut 76 = .ok (.iastore, 1) := by decide +kernel
theorem d_Model_cut_77 : decode b_Model_cut 77 = .ok (.iconst 0, 1) := by decide +kernel
theorem d_Model_cut_78 : decode b_Model_cut 78 = .ok (.istore 4, 2) := by decide +kernel
theorem d_Model_cut_80 : decode b_Model_cut 80 = .ok (.iload 4, 2) := by decide +kernel
theorem d_Model_cut_82 : decode b_Model_cut 82 = .ok (.aload_n 0, 1) := by decide +kernel
theorem d_Model_cut_83 : decode b_Model_cut 83 = .ok (.getfield 17, 3) := by decide +kernel
theorem d_Model_cut_86 : decode b_Model_cut 86 = .ok (.iload_n 1, 1) := by decide +kernel
theorem d_Model_cut_87 : decode b_Model_cut 87 = .ok (.iaload, 1) := by decide +kernel
theorem d_Model_cut_88 : decode b_Model_cut 88 = .ok (.if_icmp .ge 37, 3) := by decide +kernel
theorem d_Model_cut_91 : decode b_Model_cut 91 = .ok (.aload_n 0, 1) := by decide +kernel
theorem d_Model_cut_92 : decode b_Model_cut 92 = .ok (.getfield 13, 3) := by decide +kernel
theorem d_Model_cut_95 : decode b_Model_cut 95 = .ok (.sipush 200, 3) := by decide +kernel
theorem d_Model_cut_98 : decode b_Model_cut 98 = .ok (.iload_n 1, 1) := by decide +kernel
theorem d_Model_cut_99 : decode b_Model_cut 99 = .ok (.imul, 1) := by decide +kernel
theorem d_Model_cut_100 : decode b_Model_cut 100 = .ok (.iload 4, 2) := by decide +kernel
theorem d_Model_cut_102 : decode b_Model_cut 102 = .ok (.iadd, 1) := by decide +kernel
theorem d_Model_cut_103 : decode b_Model_cut 103 = .ok (.aload_n 0, 1) := by decide +kernel
theorem d_Model_cut_104 : decode b_Model_cut 104 = .ok (.getfield 13, 3) := by decide +kernel
theorem d_Model_cut_107 : decode b_Model_cut 107 = .ok (.sipush 200, 3) := by decide +kernel
theorem d_Model_cut_110 : decode b_Model_cut 110 = .ok (.iload_n 1, 1) := by decide +kernel
theorem d_Model_cut_111 : decode b_Model_cut 111 = .ok (.imul, 1) := by decide +kernel
theorem d_Model_cut_112 : decode b_Model_cut 112 = .ok (.iload 4, 2) := by decide +kernel
theorem d_Model_cut_114 : decode b_Model_cut 114 = .ok (.iadd, 1) := by decide +kernel
theorem d_Model_cut_115 : decode b_Model_cut 115 = .ok (.iload_n 2, 1) := by decide +kernel
theorem d_Model_cut_116 : decode b_Model_cut 116 = .ok (.iadd, 1) := by decide +kernel
theorem d_Model_cut_117 : decode b_Model_cut 117 = .ok (.saload, 1) := by decide +kernel
theorem d_Model_cut_118 : decode b_Model_cut 118 = .ok (.sastore, 1) := by decide +kernel
theorem d_Model_cut_119 : decode b_Model_cut 119 = .ok (.iinc 4 1, 3) := by decide +kernel
theorem d_Model_cut_122 : decode b_Model_cut 122 = .ok (.goto (-42), 3) := by decide +kernel
theorem d_Model_cut_125 : decode b_Model_cut 125 = .ok (.iconst 1, 1) := by decide +kernel
theorem d_Model_cut_126 : decode b_Model_cut 126 = .ok (.ireturn, 1) := by decide +kernel
theorem v_Model_cut : Cond.instanceMethod y_Model_cut ∈ nm_Ts ∧ Cond.selects y_Model_cut.cls y_Model_cut y_Model_cut ∈ nm_Ts ∧ Cond.initialized y_Model_cut.cls ∈ nm_Ts ∧ Cond.code y_Model_cut b_Model_cut 5 (some .boolean) ∈ nm_Ts ∧ mz_cl1 y_Model_cut 3 := ⟨nm_t5 114 rfl rfl, nm_t5 115 rfl rfl, nm_t1 12 rfl rfl, nm_t5 116 rfl rfl, by decide +kernel⟩
def y_Model_sign : MethodName := ⟨"CardOfficeModel", "sign", "(III)I"⟩
abbrev b_Model_sign : ByteArray := prog_14_method_59_code
def r_Model_sign (c s : Nat) : Room := { frames := 1, cells := c, slots := s, locals := 22 }
theorem d_Model_sign_0 : decode b_Model_sign 0 = .ok (.iload_n 1, 1) := by decide +kernel
theorem d_Model_sign_1 : decode b_Model_sign 1 = .ok (.invokestatic 65, 3) := by decide +kernel
theorem d_Model_sign_4 : decode b_Model_sign 4 = .ok (.ifCond .eq 18, 3) := by decide +kernel
theorem d_Model_sign_7 : decode b_Model_sign 7 = .ok (.iload_n 2, 1) := by decide +kernel
theorem d_Model_sign_8 : decode b_Model_sign 8 = .ok (.ifCond .lt 14, 3) := by decide +kernel
theorem d_Model_sign_11 : decode b_Model_sign 11 = .ok (.iload_n 3, 1) := by decide +kernel
theorem d_Model_sign_12 : decode b_Model_sign 12 = .ok (.invokestatic 108, 3) := by decide +kernel
theorem d_Model_sign_15 : decode b_Model_sign 15 = .ok (.ifCond .eq 7, 3) := by decide +kernel
theorem d_Model_sign_18 : decode b_Model_sign 18 = .ok (.iconst 1, 1) := by decide +kernel
theorem d_Model_sign_19 : decode b_Model_sign 19 = .ok (.goto 4, 3) := by decide +kernel
theorem d_Model_sign_22 : decode b_Model_sign 22 = .ok (.iconst 0, 1) := by decide +kernel
theorem d_Model_sign_23 : decode b_Model_sign 23 = .ok (.istore 4, 2) := by decide +kernel
theorem d_Model_sign_25 : decode b_Model_sign 25 = .ok (.aload_n 0, 1) := by decide +kernel
theorem d_Model_sign_26 : decode b_Model_sign 26 = .ok (.iload 4, 2) := by decide +kernel
theorem d_Model_sign_28 : decode b_Model_sign 28 = .ok (.ifCond .eq 26, 3) := by decide +kernel
theorem d_Model_sign_31 : decode b_Model_sign 31 = .ok (.iload_n 2, 1) := by decide +kernel
theorem d_Model_sign_32 : decode b_Model_sign 32 = .ok (.aload_n 0, 1) := by decide +kernel
theorem d_Model_sign_33 : decode b_Model_sign 33 = .ok (.getfield 17, 3) := by decide +kernel
theorem d_Model_sign_36 : decode b_Model_sign 36 = .ok (.iload 4, 2) := by decide +kernel
theorem d_Model_sign_38 : decode b_Model_sign 38 = .ok (.ifCond .eq 7, 3) := by decide +kernel
theorem d_Model_sign_41 : decode b_Model_sign 41 = .ok (.iload_n 1, 1) := by decide +kernel
theorem d_Model_sign_42 : decode b_Model_sign 42 = .ok (.goto 4, 3) := by decide +kernel
theorem d_Model_sign_45 : decode b_Model_sign 45 = .ok (.iconst 0, 1) := by decide +kernel
theorem d_Model_sign_46 : decode b_Model_sign 46 = .ok (.iaload, 1) := by decide +kernel
theorem d_Model_sign_47 : decode b_Model_sign 47 = .ok (.if_icmp .ge 7, 3) := by decide +kernel
theorem d_Model_sign_50 : decode b_Model_sign 50 = .ok (.iconst 0, 1) := by decide +kernel
theorem d_Model_sign_51 : decode b_Model_sign 51 = .ok (.goto 4, 3) := by decide +kernel
theorem d_Model_sign_54 : decode b_Model_sign 54 = .ok (.iconst 1, 1) := by decide +kernel
theorem d_Model_sign_55 : decode b_Model_sign 55 = .ok (.putfield 52, 3) := by decide +kernel
theorem d_Model_sign_58 : decode b_Model_sign 58 = .ok (.aload_n 0, 1) := by decide +kernel
theorem d_Model_sign_59 : decode b_Model_sign 59 = .ok (.getfield 52, 3) := by decide +kernel
theorem d_Model_sign_62 : decode b_Model_sign 62 = .ok (.ifCond .le 7, 3) := by decide +kernel
theorem d_Model_sign_65 : decode b_Model_sign 65 = .ok (.iconst 0, 1) := by decide +kernel
theorem d_Model_sign_66 : decode b_Model_sign 66 = .ok (.goto 14, 3) := by decide +kernel
theorem d_Model_sign_69 : decode b_Model_sign 69 = .ok (.aload_n 0, 1) := by decide +kernel
theorem d_Model_sign_70 : decode b_Model_sign 70 = .ok (.aload_n 0, 1) := by decide +kernel
theorem d_Model_sign_71 : decode b_Model_sign 71 = .ok (.iload_n 1, 1) := by decide +kernel
theorem d_Model_sign_72 : decode b_Model_sign 72 = .ok (.iload_n 2, 1) := by decide +kernel
theorem d_Model_sign_73 : decode b_Model_sign 73 = .ok (.invokevirtual 98, 3) := by decide +kernel
theorem d_Model_sign_76 : decode b_Model_sign 76 = .ok (.iload_n 3, 1) := by decide +kernel
theorem d_Model_sign_77 : decode b_Model_sign 77 = .ok (.invokevirtual 91, 3) := by decide +kernel
theorem d_Model_sign_80 : decode b_Model_sign 80 = .ok (.ireturn, 1) := by decide +kernel
theorem v_Model_sign : Cond.instanceMethod y_Model_sign ∈ nm_Ts ∧ Cond.selects y_Model_sign.cls y_Model_sign y_Model_sign ∈ nm_Ts ∧ Cond.initialized y_Model_sign.cls ∈ nm_Ts ∧ Cond.code y_Model_sign b_Model_sign 5 (some .int) ∈ nm_Ts ∧ mz_cl1 y_Model_sign 3 := ⟨nm_t5 118 rfl rfl, nm_t5 119 rfl rfl, nm_t1 12 rfl rfl, nm_t5 120 rfl rfl, by decide +kernel⟩
def y_Model_printed : MethodName := ⟨"CardOfficeModel", "printed", "(II)I"⟩
abbrev b_Model_printed : ByteArray := prog_14_method_60_code
def r_Model_printed (c s : Nat) : Room := { frames := 0, cells := c, slots := s, locals := 0 }
theorem d_Model_printed_0 : decode b_Model_printed 0 = .ok (.aload_n 0, 1) := by decide +kernel
theorem d_Model_printed_1 : decode b_Model_printed 1 = .ok (.iload_n 1, 1) := by decide +kernel
theorem d_Model_printed_2 : decode b_Model_printed 2 = .ok (.ifCond .lt 25, 3) := by decide +kernel
theorem d_Model_printed_5 : decode b_Model_printed 5 = .ok (.iload_n 1, 1) := by decide +kernel
theorem d_Model_printed_6 : decode b_Model_printed 6 = .ok (.aload_n 0, 1) := by decide +kernel
theorem d_Model_printed_7 : decode b_Model_printed 7 = .ok (.getfield 188, 3) := by decide +kernel
theorem d_Model_printed_10 : decode b_Model_printed 10 = .ok (.if_icmp .ge 17, 3) := by decide +kernel
theorem d_Model_printed_13 : decode b_Model_printed 13 = .ok (.iload_n 2, 1) := by decide +kernel
theorem d_Model_printed_14 : decode b_Model_printed 14 = .ok (.ifCond .lt 13, 3) := by decide +kernel
theorem d_Model_printed_17 : decode b_Model_printed 17 = .ok (.iload_n 2, 1) := by decide +kernel
theorem d_Model_printed_18 : decode b_Model_printed 18 = .ok (.bipush 24, 2) := by decide +kernel
theorem d_Model_printed_20 : decode b_Model_printed 20 = .ok (.if_icmp .ge 7, 3) := by decide +kernel
theorem d_Model_printed_23 : decode b_Model_printed 23 = .ok (.iconst 0, 1) := by decide +kernel
theorem d_Model_printed_24 : decode b_Model_printed 24 = .ok (.goto 4, 3) := by decide +kernel
theorem d_Model_printed_27 : decode b_Model_printed 27 = .ok (.iconst 1, 1) := by decide +kernel
theorem d_Model_printed_28 : decode b_Model_printed 28 = .ok (.putfield 52, 3) := by decide +kernel
theorem d_Model_printed_31 : decode b_Model_printed 31 = .ok (.aload_n 0, 1) := by decide +kernel
theorem d_Model_printed_32 : decode b_Model_printed 32 = .ok (.getfield 52, 3) := by decide +kernel
theorem d_Model_printed_35 : decode b_Model_printed 35 = .ok (.ifCond .le 7, 3) := by decide +kernel
theorem d_Model_printed_38 : decode b_Model_printed 38 = .ok (.iconst 0, 1) := by decide +kernel
theorem d_Model_printed_39 : decode b_Model_printed 39 = .ok (.goto 14, 3) := by decide +kernel
theorem d_Model_printed_42 : decode b_Model_printed 42 = .ok (.aload_n 0, 1) := by decide +kernel
theorem d_Model_printed_43 : decode b_Model_printed 43 = .ok (.getfield 45, 3) := by decide +kernel
theorem d_Model_printed_46 : decode b_Model_printed 46 = .ok (.bipush 24, 2) := by decide +kernel
theorem d_Model_printed_48 : decode b_Model_printed 48 = .ok (.iload_n 1, 1) := by decide +kernel
theorem d_Model_printed_49 : decode b_Model_printed 49 = .ok (.imul, 1) := by decide +kernel
theorem d_Model_printed_50 : decode b_Model_printed 50 = .ok (.iload_n 2, 1) := by decide +kernel
theorem d_Model_printed_51 : decode b_Model_printed 51 = .ok (.iadd, 1) := by decide +kernel
theorem d_Model_printed_52 : decode b_Model_printed 52 = .ok (.baload, 1) := by decide +kernel
theorem d_Model_printed_53 : decode b_Model_printed 53 = .ok (.ireturn, 1) := by decide +kernel
theorem v_Model_printed : Cond.instanceMethod y_Model_printed ∈ nm_Ts ∧ Cond.selects y_Model_printed.cls y_Model_printed y_Model_printed ∈ nm_Ts ∧ Cond.initialized y_Model_printed.cls ∈ nm_Ts ∧ Cond.code y_Model_printed b_Model_printed 3 (some .int) ∈ nm_Ts ∧ mz_cl1 y_Model_printed 2 := ⟨nm_t5 122 rfl rfl, nm_t5 123 rfl rfl, nm_t1 12 rfl rfl, nm_t5 124 rfl rfl, by decide +kernel⟩
def y_Model_counter : MethodName := ⟨"CardOfficeModel", "counter", "(I)I"⟩
abbrev b_Model_counter : ByteArray := prog_14_method_61_code
def r_Model_counter (c s : Nat) : Room := { frames := 0, cells := c, slots := s, locals := 0 }
theorem d_Model_counter_0 : decode b_Model_counter 0 = .ok (.aload_n 0, 1) := by decide +kernel
theorem d_Model_counter_1 : decode b_Model_counter 1 = .ok (.iload_n 1, 1) := by decide +kernel
theorem d_Model_counter_2 : decode b_Model_counter 2 = .ok (.ifCond .lt 12, 3) := by decide +kernel
theorem d_Model_counter_5 : decode b_Model_counter 5 = .ok (.iload_n 1, 1) := by decide +kernel
theorem d_Model_counter_6 : decode b_Model_counter 6 = .ok (.iconst 4, 1) := by decide +kernel
theorem d_Model_counter_7 : decode b_Model_counter 7 = .ok (.if_icmp .ge 7, 3) := by decide +kernel
theorem d_Model_counter_10 : decode b_Model_counter 10 = .ok (.iconst 0, 1) := by decide +kernel
theorem d_Model_counter_11 : decode b_Model_counter 11 = .ok (.goto 4, 3) := by decide +kernel
theorem d_Model_counter_14 : decode b_Model_counter 14 = .ok (.iconst 1, 1) := by decide +kernel
theorem d_Model_counter_15 : decode b_Model_counter 15 = .ok (.putfield 52, 3) := by decide +kernel
theorem d_Model_counter_18 : decode b_Model_counter 18 = .ok (.aload_n 0, 1) := by decide +kernel
theorem d_Model_counter_19 : decode b_Model_counter 19 = .ok (.getfield 52, 3) := by decide +kernel
theorem d_Model_counter_22 : decode b_Model_counter 22 = .ok (.ifCond .le 7, 3) := by decide +kernel
theorem d_Model_counter_25 : decode b_Model_counter 25 = .ok (.iconst 0, 1) := by decide +kernel
theorem d_Model_counter_26 : decode b_Model_counter 26 = .ok (.goto 9, 3) := by decide +kernel
theorem d_Model_counter_29 : decode b_Model_counter 29 = .ok (.aload_n 0, 1) := by decide +kernel
theorem d_Model_counter_30 : decode b_Model_counter 30 = .ok (.getfield 39, 3) := by decide +kernel
theorem d_Model_counter_33 : decode b_Model_counter 33 = .ok (.iload_n 1, 1) := by decide +kernel
theorem d_Model_counter_34 : decode b_Model_counter 34 = .ok (.iaload, 1) := by decide +kernel
theorem d_Model_counter_35 : decode b_Model_counter 35 = .ok (.ireturn, 1) := by decide +kernel
theorem v_Model_counter : Cond.instanceMethod y_Model_counter ∈ nm_Ts ∧ Cond.selects y_Model_counter.cls y_Model_counter y_Model_counter ∈ nm_Ts ∧ Cond.initialized y_Model_counter.cls ∈ nm_Ts ∧ Cond.code y_Model_counter b_Model_counter 2 (some .int) ∈ nm_Ts ∧ mz_cl1 y_Model_counter 1 := ⟨nm_t5 126 rfl rfl, nm_t5 127 rfl rfl, nm_t1 12 rfl rfl, nm_t5 128 rfl rfl, by decide +kernel⟩
def y_Model_tear : MethodName := ⟨"CardOfficeModel", "tear", "()I"⟩
abbrev b_Model_tear : ByteArray := prog_14_method_62_code
def r_Model_tear (c s : Nat) : Room := { frames := 0, cells := c, slots := s, locals := 0 }
theorem d_Model_tear_0 : decode b_Model_tear 0 = .ok (.aload_n 0, 1) := by decide +kernel
theorem d_Model_tear_1 : decode b_Model_tear 1 = .ok (.iconst 0, 1) := by decide +kernel
theorem d_Model_tear_2 : decode b_Model_tear 2 = .ok (.putfield 52, 3) := by decide +kernel
theorem d_Model_tear_5 : decode b_Model_tear 5 = .ok (.aload_n 0, 1) := by decide +kernel
theorem d_Model_tear_6 : decode b_Model_tear 6 = .ok (.getfield 188, 3) := by decide +kernel
theorem d_Model_tear_9 : decode b_Model_tear 9 = .ok (.istore_n 1, 1) := by decide +kernel
theorem d_Model_tear_10 : decode b_Model_tear 10 = .ok (.aload_n 0, 1) := by decide +kernel
theorem d_Model_tear_11 : decode b_Model_tear 11 = .ok (.iconst 0, 1) := by decide +kernel
theorem d_Model_tear_12 : decode b_Model_tear 12 = .ok (.putfield 188, 3) := by decide +kernel
theorem d_Model_tear_15 : decode b_Model_tear 15 = .ok (.iload_n 1, 1) := by decide +kernel
theorem d_Model_tear_16 : decode b_Model_tear 16 = .ok (.ireturn, 1) := by decide +kernel
theorem v_Model_tear : Cond.instanceMethod y_Model_tear ∈ nm_Ts ∧ Cond.selects y_Model_tear.cls y_Model_tear y_Model_tear ∈ nm_Ts ∧ Cond.initialized y_Model_tear.cls ∈ nm_Ts ∧ Cond.code y_Model_tear b_Model_tear 2 (some .int) ∈ nm_Ts ∧ mz_cl1 y_Model_tear 0 := ⟨nm_t5 130 rfl rfl, nm_t5 131 rfl rfl, nm_t1 12 rfl rfl, nm_t5 132 rfl rfl, by decide +kernel⟩
def y_Model_fault : MethodName := ⟨"CardOfficeModel", "fault", "(I)I"⟩
abbrev b_Model_fault : ByteArray := prog_14_method_63_code
def r_Model_fault (c s : Nat) : Room := { frames := 0, cells := c, slots := s, locals := 0 }
theorem d_Model_fault_0 : decode b_Model_fault 0 = .ok (.aload_n 0, 1) := by decide +kernel
theorem d_Model_fault_1 : decode b_Model_fault 1 = .ok (.iconst 0, 1) := by decide +kernel
theorem d_Model_fault_2 : decode b_Model_fault 2 = .ok (.putfield 52, 3) := by decide +kernel
theorem d_Model_fault_5 : decode b_Model_fault 5 = .ok (.iload_n 1, 1) := by decide +kernel
theorem d_Model_fault_6 : decode b_Model_fault 6 = .ok (.ifCond .ne 10, 3) := by decide +kernel
theorem d_Model_fault_9 : decode b_Model_fault 9 = .ok (.aload_n 0, 1) := by decide +kernel
theorem d_Model_fault_10 : decode b_Model_fault 10 = .ok (.getfield 148, 3) := by decide +kernel
theorem d_Model_fault_13 : decode b_Model_fault 13 = .ok (.goto 16, 3) := by decide +kernel
theorem d_Model_fault_16 : decode b_Model_fault 16 = .ok (.iload_n 1, 1) := by decide +kernel
theorem d_Model_fault_17 : decode b_Model_fault 17 = .ok (.iconst 1, 1) := by decide +kernel
theorem d_Model_fault_18 : decode b_Model_fault 18 = .ok (.if_icmp .ne 10, 3) := by decide +kernel
theorem d_Model_fault_21 : decode b_Model_fault 21 = .ok (.aload_n 0, 1) := by decide +kernel
theorem d_Model_fault_22 : decode b_Model_fault 22 = .ok (.getfield 48, 3) := by decide +kernel
theorem d_Model_fault_25 : decode b_Model_fault 25 = .ok (.goto 4, 3) := by decide +kernel
theorem d_Model_fault_28 : decode b_Model_fault 28 = .ok (.iconst (-1), 1) := by decide +kernel
theorem d_Model_fault_29 : decode b_Model_fault 29 = .ok (.ireturn, 1) := by decide +kernel
theorem v_Model_fault : Cond.instanceMethod y_Model_fault ∈ nm_Ts ∧ Cond.selects y_Model_fault.cls y_Model_fault y_Model_fault ∈ nm_Ts ∧ Cond.initialized y_Model_fault.cls ∈ nm_Ts ∧ Cond.code y_Model_fault b_Model_fault 2 (some .int) ∈ nm_Ts ∧ mz_cl1 y_Model_fault 1 := ⟨nm_t5 134 rfl rfl, nm_t5 135 rfl rfl, nm_t1 12 rfl rfl, nm_t5 136 rfl rfl, by decide +kernel⟩
def y_Model_count : MethodName := ⟨"CardOfficeModel", "count", "(I)I"⟩
abbrev b_Model_count : ByteArray := prog_14_method_64_code
def r_Model_count (c s : Nat) : Room := { frames := 0, cells := c, slots := s, locals := 0 }
theorem d_Model_count_0 : decode b_Model_count 0 = .ok (.aload_n 0, 1) := by decide +kernel
theorem d_Model_count_1 : decode b_Model_count 1 = .ok (.iconst 0, 1) := by decide +kernel
theorem d_Model_count_2 : decode b_Model_count 2 = .ok (.putfield 52, 3) := by decide +kernel
theorem d_Model_count_5 : decode b_Model_count 5 = .ok (.iload_n 1, 1) := by decide +kernel
theorem d_Model_count_6 : decode b_Model_count 6 = .ok (.ifCond .lt 16, 3) := by decide +kernel
theorem d_Model_count_9 : decode b_Model_count 9 = .ok (.iload_n 1, 1) := by decide +kernel
theorem d_Model_count_10 : decode b_Model_count 10 = .ok (.bipush 8, 2) := by decide +kernel
theorem d_Model_count_12 : decode b_Model_count 12 = .ok (.if_icmp .ge 10, 3) := by decide +kernel
theorem d_Model_count_15 : decode b_Model_count 15 = .ok (.aload_n 0, 1) := by decide +kernel
theorem d_Model_count_16 : decode b_Model_count 16 = .ok (.getfield 17, 3) := by decide +kernel
theorem d_Model_count_19 : decode b_Model_count 19 = .ok (.iload_n 1, 1) := by decide +kernel
theorem d_Model_count_20 : decode b_Model_count 20 = .ok (.iaload, 1) := by decide +kernel
theorem d_Model_count_21 : decode b_Model_count 21 = .ok (.ireturn, 1) := by decide +kernel
theorem d_Model_count_22 : decode b_Model_count 22 = .ok (.iload_n 1, 1) := by decide +kernel
theorem d_Model_count_23 : decode b_Model_count 23 = .ok (.bipush 10, 2) := by decide +kernel
theorem d_Model_count_25 : decode b_Model_count 25 = .ok (.if_icmp .lt 19, 3) := by decide +kernel
theorem d_Model_count_28 : decode b_Model_count 28 = .ok (.iload_n 1, 1) := by decide +kernel
theorem d_Model_count_29 : decode b_Model_count 29 = .ok (.bipush 14, 2) := by decide +kernel
theorem d_Model_count_31 : decode b_Model_count 31 = .ok (.if_icmp .ge 13, 3) := by decide +kernel
theorem d_Model_count_34 : decode b_Model_count 34 = .ok (.aload_n 0, 1) := by decide +kernel
theorem d_Model_count_35 : decode b_Model_count 35 = .ok (.getfield 33, 3) := by decide +kernel
theorem d_Model_count_38 : decode b_Model_count 38 = .ok (.iload_n 1, 1) := by decide +kernel
theorem d_Model_count_39 : decode b_Model_count 39 = .ok (.bipush 10, 2) := by decide +kernel
theorem d_Model_count_41 : decode b_Model_count 41 = .ok (.isub, 1) := by decide +kernel
theorem d_Model_count_42 : decode b_Model_count 42 = .ok (.iaload, 1) := by decide +kernel
theorem d_Model_count_43 : decode b_Model_count 43 = .ok (.ireturn, 1) := by decide +kernel
theorem d_Model_count_44 : decode b_Model_count 44 = .ok (.iload_n 1, 1) := by decide +kernel
theorem d_Model_count_45 : decode b_Model_count 45 = .ok (.bipush 8, 2) := by decide +kernel
theorem d_Model_count_47 : decode b_Model_count 47 = .ok (.if_icmp .ne 10, 3) := by decide +kernel
theorem d_Model_count_50 : decode b_Model_count 50 = .ok (.aload_n 0, 1) := by decide +kernel
theorem d_Model_count_51 : decode b_Model_count 51 = .ok (.getfield 62, 3) := by decide +kernel
theorem d_Model_count_54 : decode b_Model_count 54 = .ok (.goto 43, 3) := by decide +kernel
theorem d_Model_count_57 : decode b_Model_count 57 = .ok (.iload_n 1, 1) := by decide +kernel
theorem d_Model_count_58 : decode b_Model_count 58 = .ok (.bipush 9, 2) := by decide +kernel
theorem d_Model_count_60 : decode b_Model_count 60 = .ok (.if_icmp .ne 10, 3) := by decide +kernel
theorem d_Model_count_63 : decode b_Model_count 63 = .ok (.aload_n 0, 1) := by decide +kernel
theorem d_Model_count_64 : decode b_Model_count 64 = .ok (.getfield 188, 3) := by decide +kernel
theorem d_Model_count_67 : decode b_Model_count 67 = .ok (.goto 30, 3) := by decide +kernel
theorem d_Model_count_70 : decode b_Model_count 70 = .ok (.iload_n 1, 1) := by decide +kernel
theorem d_Model_count_71 : decode b_Model_count 71 = .ok (.bipush 14, 2) := by decide +kernel
theorem d_Model_count_73 : decode b_Model_count 73 = .ok (.if_icmp .ne 10, 3) := by decide +kernel
theorem d_Model_count_76 : decode b_Model_count 76 = .ok (.aload_n 0, 1) := by decide +kernel
theorem d_Model_count_77 : decode b_Model_count 77 = .ok (.getfield 105, 3) := by decide +kernel
theorem d_Model_count_80 : decode b_Model_count 80 = .ok (.goto 17, 3) := by decide +kernel
theorem d_Model_count_83 : decode b_Model_count 83 = .ok (.iload_n 1, 1) := by decide +kernel
theorem d_Model_count_84 : decode b_Model_count 84 = .ok (.bipush 15, 2) := by decide +kernel
theorem d_Model_count_86 : decode b_Model_count 86 = .ok (.if_icmp .ne 10, 3) := by decide +kernel
theorem d_Model_count_89 : decode b_Model_count 89 = .ok (.aload_n 0, 1) := by decide +kernel
theorem d_Model_count_90 : decode b_Model_count 90 = .ok (.getfield 133, 3) := by decide +kernel
theorem d_Model_count_93 : decode b_Model_count 93 = .ok (.goto 4, 3) := by decide +kernel
theorem d_Model_count_96 : decode b_Model_count 96 = .ok (.iconst (-1), 1) := by decide +kernel
theorem d_Model_count_97 : decode b_Model_count 97 = .ok (.ireturn, 1) := by decide +kernel
theorem v_Model_count : Cond.instanceMethod y_Model_count ∈ nm_Ts ∧ Cond.selects y_Model_count.cls y_Model_count y_Model_count ∈ nm_Ts ∧ Cond.initialized y_Model_count.cls ∈ nm_Ts ∧ Cond.code y_Model_count b_Model_count 2 (some .int) ∈ nm_Ts ∧ mz_cl1 y_Model_count 1 := ⟨nm_t5 138 rfl rfl, nm_t5 139 rfl rfl, nm_t1 12 rfl rfl, nm_t5 140 rfl rfl, by decide +kernel⟩
end
section
theorem g_0_27 : mz_ci 0 27 y_FaultLight_init b_FaultLight_init 1 0 := ⟨Or.inr (nm_n1 37 rfl rfl), i_FaultLight_init⟩
theorem g_0_34 : mz_ci 0 34 y_Sorter_init b_Sorter_init 1 0 := ⟨Or.inr (nm_n1 53 rfl rfl), i_Sorter_init⟩
theorem g_0_41 : mz_ci 0 41 y_Collator_init b_Collator_init 1 0 := ⟨Or.inr (nm_n1 72 rfl rfl), i_Collator_init⟩
theorem g_0_48 : mz_ci 0 48 y_Reproducer_init b_Reproducer_init 1 0 := ⟨Or.inr (nm_n1 110 rfl rfl), i_Reproducer_init⟩
theorem g_0_55 : mz_ci 0 55 y_Tabulator_init b_Tabulator_init 1 0 := ⟨Or.inr (nm_n1 139 rfl rfl), i_Tabulator_init⟩
theorem g_0_60 : mz_ci 0 60 y_Deck_init b_Deck_init 1 0 := ⟨Or.inr (nm_n1 180 rfl rfl), i_Deck_init⟩
theorem g_0_61 : mz_ci 0 61 y_Board_init b_Board_init 1 0 := ⟨Or.inl (nm_t1 182 rfl rfl), i_Board_init⟩
theorem g_0_62 : mz_cs 0 62 y_Office_isDeck b_Office_isDeck 1 (some .boolean) 1 := ⟨Or.inl (nm_t1 234 rfl rfl), s_Office_isDeck⟩
theorem g_0_66 : mz_cv 0 66 y_Office_cardsInAll b_Office_cardsInAll 3 (some .int) 0 := ⟨Or.inl (nm_t1 237 rfl rfl), v_Office_cardsInAll⟩
theorem g_0_70 : mz_cv 0 70 y_Office_readColumns b_Office_readColumns 6 (some .boolean) 2 := ⟨Or.inl (nm_t2 1 rfl rfl), v_Office_readColumns⟩
theorem g_0_76 : mz_ci 0 76 y_Card_init b_Card_init 1 0 := ⟨Or.inr (nm_n2 10 rfl rfl), i_Card_init⟩
theorem g_0_80 : mz_cv 0 80 y_Deck_add b_Deck_add 2 none 1 := ⟨Or.inl (nm_t2 24 rfl rfl), v_Deck_add⟩
theorem g_0_84 : mz_cs 0 84 y_Office_isBoard b_Office_isBoard 1 (some .boolean) 1 := ⟨Or.inl (nm_t2 32 rfl rfl), s_Office_isBoard⟩
theorem g_0_87 : mz_cs 0 87 y_Office_isFromJack b_Office_isFromJack 1 (some .boolean) 1 := ⟨Or.inl (nm_t2 35 rfl rfl), s_Office_isFromJack⟩
theorem g_0_90 : mz_cs 0 90 y_Office_isToJack b_Office_isToJack 1 (some .boolean) 1 := ⟨Or.inl (nm_t2 38 rfl rfl), s_Office_isToJack⟩
theorem g_0_93 : mz_cv 0 93 y_Board_addWire b_Board_addWire 3 (some .boolean) 2 := ⟨Or.inl (nm_t2 44 rfl rfl), v_Board_addWire⟩
theorem g_0_97 : mz_cv 0 97 y_Board_makeBare b_Board_makeBare 2 (some .int) 0 := ⟨Or.inl (nm_t2 56 rfl rfl), v_Board_makeBare⟩
theorem g_0_100 : mz_cs 0 100 y_Office_isCounter b_Office_isCounter 1 (some .boolean) 1 := ⟨Or.inl (nm_t2 64 rfl rfl), s_Office_isCounter⟩
theorem g_0_106 : mz_cs 0 106 y_Office_isColumn b_Office_isColumn 1 (some .boolean) 1 := ⟨Or.inl (nm_t2 41 rfl rfl), s_Office_isColumn⟩
theorem g_0_116 : mz_cv 0 116 y_Sorter_passOnce b_Sorter_passOnce 7 (some .int) 3 := ⟨Or.inl (nm_t2 170 rfl rfl), v_Sorter_passOnce⟩
theorem g_0_120 : mz_cs 0 120 y_Office_isField b_Office_isField 2 (some .boolean) 2 := ⟨Or.inl (nm_t2 206 rfl rfl), s_Office_isField⟩
theorem g_0_125 : mz_cv 0 125 y_Sorter_sortOn b_Sorter_sortOn 6 (some .int) 3 := ⟨Or.inl (nm_t2 210 rfl rfl), v_Sorter_sortOn⟩
theorem g_0_129 : mz_cs 0 129 y_Office_areTwoDecks b_Office_areTwoDecks 2 (some .boolean) 2 := ⟨Or.inl (nm_t2 71 rfl rfl), s_Office_areTwoDecks⟩
theorem g_0_134 : mz_cv 0 134 y_Deck_isSorted b_Deck_isSorted 4 (some .boolean) 2 := ⟨Or.inl (nm_t3 5 rfl rfl), v_Deck_isSorted⟩
theorem g_0_142 : mz_cv 0 142 y_Collator_mergeOn b_Collator_mergeOn 9 (some .int) 4 := ⟨Or.inl (nm_t3 22 rfl rfl), v_Collator_mergeOn⟩
theorem g_0_148 : mz_cv 0 148 y_Collator_matchOn b_Collator_matchOn 15 (some .int) 5 := ⟨Or.inl (nm_t3 44 rfl rfl), v_Collator_matchOn⟩
theorem g_0_154 : mz_cv 0 154 y_Reproducer_copyDeck b_Reproducer_copyDeck 7 (some .int) 5 := ⟨Or.inl (nm_t3 56 rfl rfl), v_Reproducer_copyDeck⟩
theorem g_0_160 : mz_cv 0 160 y_Reproducer_punchGangs b_Reproducer_punchGangs 8 (some .int) 4 := ⟨Or.inl (nm_t3 113 rfl rfl), v_Reproducer_punchGangs⟩
theorem g_0_164 : mz_cs 0 164 y_Office_isFactorField b_Office_isFactorField 1 (some .boolean) 1 := ⟨Or.inl (nm_t3 137 rfl rfl), s_Office_isFactorField⟩
theorem g_0_167 : mz_cs 0 167 y_Office_haveCommonColumn b_Office_haveCommonColumn 2 (some .boolean) 2 := ⟨Or.inl (nm_t3 149 rfl rfl), s_Office_haveCommonColumn⟩
theorem g_0_172 : mz_cs 0 172 y_Multiplier_goThrough b_Multiplier_goThrough 7 (some .int) 5 := ⟨Or.inl (nm_t3 153 rfl rfl), s_Multiplier_goThrough⟩
theorem g_0_180 : mz_cv 0 180 y_Tabulator_goThrough b_Tabulator_goThrough 9 (some .int) 3 := ⟨Or.inl (nm_t3 194 rfl rfl), v_Tabulator_goThrough⟩
theorem g_0_187 : mz_cv 0 187 y_Deck_moveFirst b_Deck_moveFirst 5 none 2 := ⟨Or.inl (nm_t2 74 rfl rfl), v_Deck_moveFirst⟩
theorem g_0_196 : mz_cv 0 196 y_Deck_at b_Deck_at 2 (some (.object "CardOffice$Card")) 1 := ⟨Or.inl (nm_t4 60 rfl rfl), v_Deck_at⟩
theorem g_0_234 : mz_cs 0 234 y_Office_endOf b_Office_endOf 1 (some .int) 1 := ⟨Or.inl (nm_t3 140 rfl rfl), s_Office_endOf⟩
theorem g_0_238 : mz_cs 0 238 y_Office_startOf b_Office_startOf 1 (some .int) 1 := ⟨Or.inl (nm_t3 143 rfl rfl), s_Office_startOf⟩
theorem g_0_241 : mz_cs 0 241 y_Office_widthOf b_Office_widthOf 1 (some .int) 1 := ⟨Or.inl (nm_t3 146 rfl rfl), s_Office_widthOf⟩
theorem g_0_244 : mz_cs 0 244 y_Office_isSign b_Office_isSign 1 (some .boolean) 1 := ⟨Or.inl (nm_t2 5 rfl rfl), s_Office_isSign⟩
theorem g_0_247 : mz_cs 0 247 y_Office_digitOf b_Office_digitOf 1 (some .int) 1 := ⟨Or.inl (nm_t2 192 rfl rfl), s_Office_digitOf⟩
theorem g_0_250 : mz_cs 0 250 y_Office_zoneOf b_Office_zoneOf 1 (some .int) 1 := ⟨Or.inl (nm_t2 225 rfl rfl), s_Office_zoneOf⟩
theorem g_0_253 : mz_cs 0 253 y_Office_digitPocketOf b_Office_digitPocketOf 1 (some .int) 1 := ⟨Or.inl (nm_t2 226 rfl rfl), s_Office_digitPocketOf⟩
theorem g_1_21 : mz_cs 1 21 y_Arrays_fill b_Arrays_fill 4 none 2 := ⟨Or.inl (nm_t1 186 rfl rfl), s_Arrays_fill⟩
theorem g_1_31 : mz_cv 1 31 y_Board_hasWire b_Board_hasWire 4 (some .boolean) 2 := ⟨Or.inl (nm_t2 48 rfl rfl), v_Board_hasWire⟩
theorem g_1_40 : mz_cv 1 40 y_Jacks_clear b_Jacks_clear 1 none 0 := ⟨Or.inl (nm_t3 65 rfl rfl), v_Jacks_clear⟩
theorem g_1_45 : mz_cv 1 45 y_Board_isFromExit b_Board_isFromExit 2 (some .boolean) 1 := ⟨Or.inl (nm_t3 70 rfl rfl), v_Board_isFromExit⟩
theorem g_1_49 : mz_cv 1 49 y_Jacks_hasJack b_Jacks_hasJack 2 (some .boolean) 1 := ⟨Or.inl (nm_t3 74 rfl rfl), v_Jacks_hasJack⟩
theorem g_1_52 : mz_cv 1 52 y_Board_signFrom b_Board_signFrom 3 (some .int) 2 := ⟨Or.inl (nm_t3 78 rfl rfl), v_Board_signFrom⟩
theorem g_1_56 : mz_cv 1 56 y_Jacks_bring b_Jacks_bring 4 none 2 := ⟨Or.inl (nm_t3 82 rfl rfl), v_Jacks_bring⟩
theorem g_1_60 : mz_cs 1 60 y_Board_wheelSign b_Board_wheelSign 3 (some .int) 2 := ⟨Or.inl (nm_t3 222 rfl rfl), s_Board_wheelSign⟩
theorem g_1_67 : mz_cv 1 67 y_Card_canTake b_Card_canTake 3 (some .boolean) 2 := ⟨Or.inl (nm_t3 122 rfl rfl), v_Card_canTake⟩
theorem g_2_15 : mz_cs 2 15 y_Office_rankOf b_Office_rankOf 1 (some .int) 1 := ⟨Or.inr (nm_n2 222 rfl rfl), s_Office_rankOf⟩
theorem g_2_19 : mz_cs 2 19 y_Integer_compare b_Integer_compare 2 (some .int) 2 := ⟨Or.inl (nm_t2 227 rfl rfl), s_Integer_compare⟩
theorem g_3_9 : mz_ci 3 9 y_Deck_init b_Deck_init 1 0 := ⟨Or.inr (nm_n1 78 rfl rfl), i_Deck_init⟩
theorem g_3_26 : mz_cs 3 26 y_Collator_orderOf b_Collator_orderOf 6 (some .int) 6 := ⟨Or.inl (nm_t3 26 rfl rfl), s_Collator_orderOf⟩
theorem g_3_30 : mz_cv 3 30 y_Deck_at b_Deck_at 2 (some (.object "CardOffice$Card")) 1 := ⟨Or.inl (nm_t3 29 rfl rfl), v_Deck_at⟩
theorem g_3_34 : mz_cv 3 34 y_Deck_add b_Deck_add 2 none 1 := ⟨Or.inl (nm_t3 31 rfl rfl), v_Deck_add⟩
theorem g_3_38 : mz_cv 3 38 y_Deck_takeAllOf b_Deck_takeAllOf 3 none 1 := ⟨Or.inl (nm_t3 32 rfl rfl), v_Deck_takeAllOf⟩
theorem g_3_42 : mz_cv 3 42 y_Card_compareOn b_Card_compareOn 5 (some .int) 3 := ⟨Or.inl (nm_t3 30 rfl rfl), v_Card_compareOn⟩
theorem g_4_27 : mz_cv 4 27 y_Deck_add b_Deck_add 2 none 1 := ⟨Or.inl (nm_t2 81 rfl rfl), v_Deck_add⟩
theorem g_4_31 : mz_cv 4 31 y_Card_compareOn b_Card_compareOn 5 (some .int) 3 := ⟨Or.inl (nm_t2 218 rfl rfl), v_Card_compareOn⟩
theorem g_4_39 : mz_cs 4 39 y_Office_zoneOf b_Office_zoneOf 1 (some .int) 1 := ⟨Or.inr (nm_n2 235 rfl rfl), s_Office_zoneOf⟩
theorem g_6_19 : mz_cs 6 19 y_Arrays_fill b_Arrays_fill 4 none 2 := ⟨Or.inl (nm_t3 69 rfl rfl), s_Arrays_fill⟩
theorem g_7_20 : mz_cv 7 20 y_Jacks_signOrBlank b_Jacks_signOrBlank 2 (some .int) 1 := ⟨Or.inl (nm_t4 18 rfl rfl), v_Jacks_signOrBlank⟩
theorem g_8_11 : mz_ci 8 11 y_Jacks_init b_Jacks_init 3 2 := ⟨Or.inl (nm_t1 116 rfl rfl), i_Jacks_init⟩
theorem g_8_26 : mz_cv 8 26 y_Deck_at b_Deck_at 2 (some (.object "CardOffice$Card")) 1 := ⟨Or.inl (nm_t3 60 rfl rfl), v_Deck_at⟩
theorem g_8_30 : mz_cv 8 30 y_Board_bringFromCard b_Board_bringFromCard 4 none 2 := ⟨Or.inl (nm_t3 61 rfl rfl), v_Board_bringFromCard⟩
theorem g_8_40 : mz_cv 8 40 y_FaultLight_stopAt b_FaultLight_stopAt 3 (some .int) 2 := ⟨Or.inl (nm_t3 86 rfl rfl), v_FaultLight_stopAt⟩
theorem g_8_46 : mz_cv 8 46 y_Reproducer_newCard b_Reproducer_newCard 3 (some (.object "CardOffice$Card")) 0 := ⟨Or.inl (nm_t3 90 rfl rfl), v_Reproducer_newCard⟩
theorem g_8_50 : mz_cv 8 50 y_Deck_add b_Deck_add 2 none 1 := ⟨Or.inl (nm_t3 100 rfl rfl), v_Deck_add⟩
theorem g_8_54 : mz_cv 8 54 y_FaultLight_allDone b_FaultLight_allDone 2 (some .int) 1 := ⟨Or.inl (nm_t3 101 rfl rfl), v_FaultLight_allDone⟩
theorem g_8_64 : mz_cs 8 64 y_Office_zoneOf b_Office_zoneOf 1 (some .int) 1 := ⟨Or.inr (nm_n3 117 rfl rfl), s_Office_zoneOf⟩
theorem g_8_67 : mz_cv 8 67 y_Board_canPunch b_Board_canPunch 4 (some .boolean) 2 := ⟨Or.inl (nm_t3 118 rfl rfl), v_Board_canPunch⟩
theorem g_8_71 : mz_cv 8 71 y_Reproducer_punchInto b_Reproducer_punchInto 3 none 1 := ⟨Or.inl (nm_t3 126 rfl rfl), v_Reproducer_punchInto⟩
theorem g_8_74 : mz_ci 8 74 y_Card_init b_Card_init 1 0 := ⟨Or.inr (nm_n3 95 rfl rfl), i_Card_init⟩
theorem g_8_75 : mz_cv 8 75 y_Jacks_signOrBlank b_Jacks_signOrBlank 2 (some .int) 1 := ⟨Or.inl (nm_t3 96 rfl rfl), v_Jacks_signOrBlank⟩
theorem g_9_25 : mz_cv 9 25 y_Sorter_fillPockets b_Sorter_fillPockets 5 none 3 := ⟨Or.inl (nm_t2 174 rfl rfl), v_Sorter_fillPockets⟩
theorem g_9_29 : mz_cv 9 29 y_Sorter_stackPockets b_Sorter_stackPockets 5 (some .int) 0 := ⟨Or.inl (nm_t2 195 rfl rfl), v_Sorter_stackPockets⟩
theorem g_9_38 : mz_cv 9 38 y_Deck_at b_Deck_at 2 (some (.object "CardOffice$Card")) 1 := ⟨Or.inl (nm_t2 179 rfl rfl), v_Deck_at⟩
theorem g_9_42 : mz_cs 9 42 y_Sorter_pocketOf b_Sorter_pocketOf 4 (some .int) 3 := ⟨Or.inl (nm_t2 183 rfl rfl), s_Sorter_pocketOf⟩
theorem g_9_49 : mz_cv 9 49 y_Deck_isSorted b_Deck_isSorted 4 (some .boolean) 2 := ⟨Or.inl (nm_t2 214 rfl rfl), v_Deck_isSorted⟩
theorem g_9_53 : mz_cv 9 53 y_Sorter_passOnce b_Sorter_passOnce 7 (some .int) 3 := ⟨Or.inl (nm_t2 230 rfl rfl), v_Sorter_passOnce⟩
theorem g_9_57 : mz_cv 9 57 y_Deck_hasZoneIn b_Deck_hasZoneIn 3 (some .boolean) 1 := ⟨Or.inl (nm_t2 231 rfl rfl), v_Deck_hasZoneIn⟩
theorem g_9_61 : mz_cs 9 61 y_Arrays_fill b_Arrays_fill 4 none 2 := ⟨Or.inl (nm_t2 178 rfl rfl), s_Arrays_fill⟩
theorem g_9_70 : mz_cs 9 70 y_Office_zoneOf b_Office_zoneOf 1 (some .int) 1 := ⟨Or.inr (nm_n2 186 rfl rfl), s_Office_zoneOf⟩
theorem g_9_74 : mz_cs 9 74 y_Office_digitPocketOf b_Office_digitPocketOf 1 (some .int) 1 := ⟨Or.inr (nm_n2 189 rfl rfl), s_Office_digitPocketOf⟩
theorem g_10_17 : mz_ci 10 17 y_Paper_init b_Paper_init 1 0 := ⟨Or.inr (nm_n1 145 rfl rfl), i_Paper_init⟩
theorem g_10_24 : mz_ci 10 24 y_Jacks_init b_Jacks_init 3 2 := ⟨Or.inl (nm_t1 161 rfl rfl), i_Jacks_init⟩
theorem g_10_37 : mz_cs 10 37 y_Arrays_fill b_Arrays_fill 4 none 2 := ⟨Or.inl (nm_t3 198 rfl rfl), s_Arrays_fill⟩
theorem g_10_43 : mz_cv 10 43 y_Board_isListing b_Board_isListing 2 (some .boolean) 0 := ⟨Or.inl (nm_t3 199 rfl rfl), v_Board_isListing⟩
theorem g_10_55 : mz_cv 10 55 y_Deck_at b_Deck_at 2 (some (.object "CardOffice$Card")) 1 := ⟨Or.inl (nm_t3 203 rfl rfl), v_Deck_at⟩
theorem g_10_59 : mz_cv 10 59 y_Board_levelsBroken b_Board_levelsBroken 6 (some .int) 2 := ⟨Or.inl (nm_t3 204 rfl rfl), v_Board_levelsBroken⟩
theorem g_10_63 : mz_cv 10 63 y_Tabulator_faultOfCard b_Tabulator_faultOfCard 6 (some .int) 4 := ⟨Or.inl (nm_t3 209 rfl rfl), v_Tabulator_faultOfCard⟩
theorem g_10_67 : mz_cv 10 67 y_FaultLight_stopAt b_FaultLight_stopAt 3 (some .int) 2 := ⟨Or.inl (nm_t4 9 rfl rfl), v_FaultLight_stopAt⟩
theorem g_10_73 : mz_cv 10 73 y_Tabulator_doTotals b_Tabulator_doTotals 4 none 2 := ⟨Or.inl (nm_t4 10 rfl rfl), v_Tabulator_doTotals⟩
theorem g_10_77 : mz_cv 10 77 y_Tabulator_doCard b_Tabulator_doCard 3 none 1 := ⟨Or.inl (nm_t4 23 rfl rfl), v_Tabulator_doCard⟩
theorem g_10_81 : mz_cv 10 81 y_Tabulator_finish b_Tabulator_finish 5 (some .int) 3 := ⟨Or.inl (nm_t4 27 rfl rfl), v_Tabulator_finish⟩
theorem g_10_85 : mz_cv 10 85 y_Tabulator_faultOfLastTotals b_Tabulator_faultOfLastTotals 2 (some .int) 1 := ⟨Or.inl (nm_t4 31 rfl rfl), v_Tabulator_faultOfLastTotals⟩
theorem g_10_89 : mz_cv 10 89 y_FaultLight_allDone b_FaultLight_allDone 2 (some .int) 1 := ⟨Or.inl (nm_t4 35 rfl rfl), v_FaultLight_allDone⟩
theorem g_10_93 : mz_cv 10 93 y_Board_bringFromCard b_Board_bringFromCard 4 none 2 := ⟨Or.inl (nm_t3 213 rfl rfl), v_Board_bringFromCard⟩
theorem g_10_97 : mz_cv 10 97 y_Tabulator_totalsClash b_Tabulator_totalsClash 4 (some .boolean) 2 := ⟨Or.inl (nm_t3 214 rfl rfl), v_Tabulator_totalsClash⟩
theorem g_10_105 : mz_cv 10 105 y_Tabulator_isAnyOverrun b_Tabulator_isAnyOverrun 5 (some .boolean) 2 := ⟨Or.inl (nm_t3 226 rfl rfl), v_Tabulator_isAnyOverrun⟩
theorem g_10_108 : mz_cs 10 108 y_Tabulator_totalLines b_Tabulator_totalLines 4 (some .int) 2 := ⟨Or.inl (nm_t3 238 rfl rfl), s_Tabulator_totalLines⟩
theorem g_10_112 : mz_cv 10 112 y_Paper_hasRoomFor b_Paper_hasRoomFor 2 (some .boolean) 1 := ⟨Or.inl (nm_t4 5 rfl rfl), v_Paper_hasRoomFor⟩
theorem g_10_116 : mz_cv 10 116 y_Board_bringFromCounters b_Board_bringFromCounters 7 none 3 := ⟨Or.inl (nm_t3 218 rfl rfl), v_Board_bringFromCounters⟩
theorem g_10_123 : mz_cv 10 123 y_Tabulator_entered b_Tabulator_entered 5 (some .int) 1 := ⟨Or.inl (nm_t3 230 rfl rfl), v_Tabulator_entered⟩
theorem g_10_129 : mz_cv 10 129 y_Jacks_signOrBlank b_Jacks_signOrBlank 2 (some .int) 1 := ⟨Or.inl (nm_t3 234 rfl rfl), v_Jacks_signOrBlank⟩
theorem g_10_132 : mz_cs 10 132 y_Office_digitOf b_Office_digitOf 1 (some .int) 1 := ⟨Or.inr (nm_n3 235 rfl rfl), s_Office_digitOf⟩
theorem g_10_140 : mz_cv 10 140 y_Board_hasCounterOf b_Board_hasCounterOf 3 (some .boolean) 1 := ⟨Or.inl (nm_t4 1 rfl rfl), v_Board_hasCounterOf⟩
theorem g_10_143 : mz_cv 10 143 y_Paper_print b_Paper_print 3 none 1 := ⟨Or.inl (nm_t4 14 rfl rfl), v_Paper_print⟩
theorem g_10_147 : mz_cv 10 147 y_Tabulator_clearCounters b_Tabulator_clearCounters 4 none 2 := ⟨Or.inl (nm_t4 19 rfl rfl), v_Tabulator_clearCounters⟩
theorem g_12_15 : mz_cv 12 15 y_Deck_at b_Deck_at 2 (some (.object "CardOffice$Card")) 1 := ⟨Or.inl (nm_t3 156 rfl rfl), v_Deck_at⟩
theorem g_12_19 : mz_cs 12 19 y_Multiplier_multiplyOn b_Multiplier_multiplyOn 10 (some .int) 4 := ⟨Or.inl (nm_t3 157 rfl rfl), s_Multiplier_multiplyOn⟩
theorem g_12_25 : mz_cv 12 25 y_FaultLight_stopAt b_FaultLight_stopAt 3 (some .int) 2 := ⟨Or.inl (nm_t3 184 rfl rfl), v_FaultLight_stopAt⟩
theorem g_12_31 : mz_cv 12 31 y_FaultLight_allDone b_FaultLight_allDone 2 (some .int) 1 := ⟨Or.inl (nm_t3 185 rfl rfl), v_FaultLight_allDone⟩
theorem g_12_35 : mz_cs 12 35 y_Multiplier_numberIn b_Multiplier_numberIn 6 (some .long) 2 := ⟨Or.inl (nm_t3 160 rfl rfl), s_Multiplier_numberIn⟩
theorem g_12_49 : mz_cs 12 49 y_Office_widthOf b_Office_widthOf 1 (some .int) 1 := ⟨Or.inr (nm_n3 173 rfl rfl), s_Office_widthOf⟩
theorem g_12_52 : mz_cs 12 52 y_Multiplier_canTakeNumber b_Multiplier_canTakeNumber 4 (some .boolean) 3 := ⟨Or.inl (nm_t3 174 rfl rfl), s_Multiplier_canTakeNumber⟩
theorem g_12_56 : mz_cs 12 56 y_Multiplier_punchNumber b_Multiplier_punchNumber 4 none 3 := ⟨Or.inl (nm_t3 181 rfl rfl), s_Multiplier_punchNumber⟩
theorem g_12_60 : mz_cs 12 60 y_Office_startOf b_Office_startOf 1 (some .int) 1 := ⟨Or.inr (nm_n3 163 rfl rfl), s_Office_startOf⟩
theorem g_12_63 : mz_cs 12 63 y_Office_endOf b_Office_endOf 1 (some .int) 1 := ⟨Or.inr (nm_n3 164 rfl rfl), s_Office_endOf⟩
theorem g_12_71 : mz_cs 12 71 y_Office_zoneOf b_Office_zoneOf 1 (some .int) 1 := ⟨Or.inr (nm_n3 165 rfl rfl), s_Office_zoneOf⟩
theorem g_12_74 : mz_cs 12 74 y_Office_digitOf b_Office_digitOf 1 (some .int) 1 := ⟨Or.inr (nm_n3 168 rfl rfl), s_Office_digitOf⟩
theorem g_12_82 : mz_cs 12 82 y_Multiplier_signOfNumber b_Multiplier_signOfNumber 3 (some .int) 3 := ⟨Or.inl (nm_t3 177 rfl rfl), s_Multiplier_signOfNumber⟩
theorem g_12_86 : mz_cv 12 86 y_Card_canTake b_Card_canTake 3 (some .boolean) 2 := ⟨Or.inl (nm_t3 180 rfl rfl), v_Card_canTake⟩
end
section
theorem g_11_55 : mz_cs 11 55 y_Model_zoneOf b_Model_zoneOf 1 (some .int) 1 := ⟨Or.inl (nm_t4 205 rfl rfl), s_Model_zoneOf⟩
theorem g_11_59 : mz_cs 11 59 y_Model_digitOf b_Model_digitOf 1 (some .int) 1 := ⟨Or.inl (nm_t4 208 rfl rfl), s_Model_digitOf⟩
theorem g_11_65 : mz_cs 11 65 y_Model_isDeck b_Model_isDeck 1 (some .boolean) 1 := ⟨Or.inl (nm_t4 146 rfl rfl), s_Model_isDeck⟩
theorem g_11_71 : mz_cs 11 71 y_Model_isSign b_Model_isSign 1 (some .boolean) 1 := ⟨Or.inl (nm_t4 150 rfl rfl), s_Model_isSign⟩
theorem g_11_74 : mz_cv 11 74 y_Model_newCard b_Model_newCard 2 (some .int) 0 := ⟨Or.inl (nm_t4 153 rfl rfl), v_Model_newCard⟩
theorem g_11_78 : mz_cv 11 78 y_Model_add b_Model_add 3 none 2 := ⟨Or.inl (nm_t4 157 rfl rfl), v_Model_add⟩
theorem g_11_82 : mz_cs 11 82 y_Model_isBoard b_Model_isBoard 1 (some .boolean) 1 := ⟨Or.inl (nm_t4 165 rfl rfl), s_Model_isBoard⟩
theorem g_11_85 : mz_cs 11 85 y_Model_isFrom b_Model_isFrom 1 (some .boolean) 1 := ⟨Or.inl (nm_t4 168 rfl rfl), s_Model_isFrom⟩
theorem g_11_88 : mz_cs 11 88 y_Model_isTo b_Model_isTo 1 (some .boolean) 1 := ⟨Or.inl (nm_t4 171 rfl rfl), s_Model_isTo⟩
theorem g_11_91 : mz_cv 11 91 y_Model_at b_Model_at 3 (some .int) 2 := ⟨Or.inl (nm_t4 201 rfl rfl), v_Model_at⟩
theorem g_11_95 : mz_cv 11 95 y_Model_brings b_Model_brings 4 (some .int) 2 := ⟨Or.inl (nm_t5 21 rfl rfl), v_Model_brings⟩
theorem g_11_98 : mz_cv 11 98 y_Model_cardAt b_Model_cardAt 3 (some .int) 2 := ⟨Or.inl (nm_t4 193 rfl rfl), v_Model_cardAt⟩
theorem g_11_101 : mz_cv 11 101 y_Model_keyOf b_Model_keyOf 4 (some .int) 3 := ⟨Or.inl (nm_t4 197 rfl rfl), v_Model_keyOf⟩
theorem g_11_108 : mz_cs 11 108 y_Model_isColumn b_Model_isColumn 1 (some .boolean) 1 := ⟨Or.inl (nm_t4 186 rfl rfl), s_Model_isColumn⟩
theorem g_11_111 : mz_cv 11 111 y_Model_sift b_Model_sift 9 (some .int) 3 := ⟨Or.inl (nm_t4 189 rfl rfl), v_Model_sift⟩
theorem g_11_114 : mz_cs 11 114 y_Model_rank b_Model_rank 1 (some .int) 1 := ⟨Or.inl (nm_t4 226 rfl rfl), s_Model_rank⟩
theorem g_11_117 : mz_cv 11 117 y_Model_compare b_Model_compare 6 (some .int) 4 := ⟨Or.inl (nm_t4 222 rfl rfl), v_Model_compare⟩
theorem g_11_121 : mz_cs 11 121 y_Model_isField b_Model_isField 2 (some .boolean) 2 := ⟨Or.inl (nm_t4 215 rfl rfl), s_Model_isField⟩
theorem g_11_125 : mz_cv 11 125 y_Model_isSorted b_Model_isSorted 6 (some .boolean) 3 := ⟨Or.inl (nm_t4 218 rfl rfl), v_Model_isSorted⟩
theorem g_11_129 : mz_cv 11 129 y_Model_putIn b_Model_putIn 7 none 5 := ⟨Or.inl (nm_t4 229 rfl rfl), v_Model_putIn⟩
theorem g_11_136 : mz_cv 11 136 y_Model_hasKey b_Model_hasKey 7 (some .boolean) 4 := ⟨Or.inl (nm_t5 5 rfl rfl), v_Model_hasKey⟩
theorem g_11_140 : mz_cv 11 140 y_Model_take b_Model_take 8 (some .int) 5 := ⟨Or.inl (nm_t5 1 rfl rfl), v_Model_take⟩
theorem g_11_144 : mz_cv 11 144 y_Model_leave b_Model_leave 9 none 4 := ⟨Or.inl (nm_t5 9 rfl rfl), v_Model_leave⟩
theorem g_11_151 : mz_cv 11 151 y_Model_arrives b_Model_arrives 7 (some .int) 3 := ⟨Or.inl (nm_t5 17 rfl rfl), v_Model_arrives⟩
theorem g_11_155 : mz_cv 11 155 y_Model_fails b_Model_fails 3 (some .int) 2 := ⟨Or.inl (nm_t5 25 rfl rfl), v_Model_fails⟩
theorem g_11_158 : mz_cv 11 158 y_Model_faultOfGang b_Model_faultOfGang 9 (some .int) 3 := ⟨Or.inl (nm_t5 33 rfl rfl), v_Model_faultOfGang⟩
theorem g_11_163 : mz_cs 11 163 y_Model_isFactor b_Model_isFactor 1 (some .boolean) 1 := ⟨Or.inl (nm_t5 41 rfl rfl), s_Model_isFactor⟩
theorem g_11_166 : mz_cs 11 166 y_Model_meet b_Model_meet 2 (some .boolean) 2 := ⟨Or.inl (nm_t5 44 rfl rfl), s_Model_meet⟩
theorem g_11_169 : mz_cv 11 169 y_Model_numberOf b_Model_numberOf 7 (some .int) 2 := ⟨Or.inl (nm_t5 47 rfl rfl), v_Model_numberOf⟩
theorem g_11_174 : mz_cs 11 174 y_Model_tenTo b_Model_tenTo 4 (some .long) 1 := ⟨Or.inl (nm_t5 53 rfl rfl), s_Model_tenTo⟩
theorem g_11_178 : mz_cv 11 178 y_Model_punches b_Model_punches 11 (some .boolean) 4 := ⟨Or.inl (nm_t5 56 rfl rfl), v_Model_punches⟩
theorem g_11_182 : mz_cv 11 182 y_Model_wheel b_Model_wheel 5 (some .int) 2 := ⟨Or.inl (nm_t5 88 rfl rfl), v_Model_wheel⟩
theorem g_11_185 : mz_cv 11 185 y_Model_totals b_Model_totals 9 (some .int) 3 := ⟨Or.inl (nm_t5 84 rfl rfl), v_Model_totals⟩
theorem g_11_191 : mz_cv 11 191 y_Model_hasLevel b_Model_hasLevel 5 (some .boolean) 2 := ⟨Or.inl (nm_t5 92 rfl rfl), v_Model_hasLevel⟩
theorem g_11_194 : mz_cv 11 194 y_Model_print b_Model_print 3 none 2 := ⟨Or.inl (nm_t5 105 rfl rfl), v_Model_print⟩
theorem g_11_197 : mz_cv 11 197 y_Model_isListed b_Model_isListed 4 (some .boolean) 1 := ⟨Or.inl (nm_t5 72 rfl rfl), v_Model_isListed⟩
theorem g_11_200 : mz_cv 11 200 y_Model_counts b_Model_counts 10 (some .boolean) 3 := ⟨Or.inl (nm_t5 76 rfl rfl), v_Model_counts⟩
theorem g_11_203 : mz_cv 11 203 y_Model_clashes b_Model_clashes 5 (some .boolean) 2 := ⟨Or.inl (nm_t5 80 rfl rfl), v_Model_clashes⟩
theorem g_11_207 : mz_cv 11 207 y_Model_total b_Model_total 4 none 2 := ⟨Or.inl (nm_t5 101 rfl rfl), v_Model_total⟩
theorem g_11_210 : mz_cv 11 210 y_Model_breaks b_Model_breaks 9 (some .boolean) 4 := ⟨Or.inl (nm_t5 64 rfl rfl), v_Model_breaks⟩
theorem g_11_213 : mz_cv 11 213 y_Model_faultOfCard b_Model_faultOfCard 9 (some .int) 3 := ⟨Or.inl (nm_t5 68 rfl rfl), v_Model_faultOfCard⟩
theorem g_11_216 : mz_cv 11 216 y_Model_tabulateCard b_Model_tabulateCard 5 none 3 := ⟨Or.inl (nm_t5 97 rfl rfl), v_Model_tabulateCard⟩
theorem g_11_220 : mz_cv 11 220 y_Model_faultOfEnd b_Model_faultOfEnd 5 (some .int) 1 := ⟨Or.inl (nm_t5 109 rfl rfl), v_Model_faultOfEnd⟩
end
section
theorem w_obj_0 : Cond.methodLink (nm_Own 0) 1 objectInit ∈ nm_Ts ∧ Cond.instanceMethod objectInit ∈ nm_Ts ∧ Cond.code objectInit ⟨#[0xb1]⟩ 1 none ∈ nm_Ts := ⟨nm_t1 28 rfl rfl, nm_t1 29 rfl rfl, nm_t1 30 rfl rfl⟩
theorem w_obj_5 : Cond.methodLink (nm_Own 5) 3 objectInit ∈ nm_Ts ∧ Cond.instanceMethod objectInit ∈ nm_Ts ∧ Cond.code objectInit ⟨#[0xb1]⟩ 1 none ∈ nm_Ts := ⟨nm_t1 40 rfl rfl, nm_t1 29 rfl rfl, nm_t1 30 rfl rfl⟩
theorem w_obj_9 : Cond.methodLink (nm_Own 9) 3 objectInit ∈ nm_Ts ∧ Cond.instanceMethod objectInit ∈ nm_Ts ∧ Cond.code objectInit ⟨#[0xb1]⟩ 1 none ∈ nm_Ts := ⟨nm_t1 56 rfl rfl, nm_t1 29 rfl rfl, nm_t1 30 rfl rfl⟩
theorem w_obj_3 : Cond.methodLink (nm_Own 3) 1 objectInit ∈ nm_Ts ∧ Cond.instanceMethod objectInit ∈ nm_Ts ∧ Cond.code objectInit ⟨#[0xb1]⟩ 1 none ∈ nm_Ts := ⟨nm_t1 75 rfl rfl, nm_t1 29 rfl rfl, nm_t1 30 rfl rfl⟩
theorem w_obj_4 : Cond.methodLink (nm_Own 4) 3 objectInit ∈ nm_Ts ∧ Cond.instanceMethod objectInit ∈ nm_Ts ∧ Cond.code objectInit ⟨#[0xb1]⟩ 1 none ∈ nm_Ts := ⟨nm_t1 81 rfl rfl, nm_t1 29 rfl rfl, nm_t1 30 rfl rfl⟩
theorem w_obj_8 : Cond.methodLink (nm_Own 8) 3 objectInit ∈ nm_Ts ∧ Cond.instanceMethod objectInit ∈ nm_Ts ∧ Cond.code objectInit ⟨#[0xb1]⟩ 1 none ∈ nm_Ts := ⟨nm_t1 113 rfl rfl, nm_t1 29 rfl rfl, nm_t1 30 rfl rfl⟩
theorem w_obj_6 : Cond.methodLink (nm_Own 6) 3 objectInit ∈ nm_Ts ∧ Cond.instanceMethod objectInit ∈ nm_Ts ∧ Cond.code objectInit ⟨#[0xb1]⟩ 1 none ∈ nm_Ts := ⟨nm_t1 119 rfl rfl, nm_t1 29 rfl rfl, nm_t1 30 rfl rfl⟩
theorem w_obj_10 : Cond.methodLink (nm_Own 10) 3 objectInit ∈ nm_Ts ∧ Cond.instanceMethod objectInit ∈ nm_Ts ∧ Cond.code objectInit ⟨#[0xb1]⟩ 1 none ∈ nm_Ts := ⟨nm_t1 142 rfl rfl, nm_t1 29 rfl rfl, nm_t1 30 rfl rfl⟩
theorem w_obj_7 : Cond.methodLink (nm_Own 7) 3 objectInit ∈ nm_Ts ∧ Cond.instanceMethod objectInit ∈ nm_Ts ∧ Cond.code objectInit ⟨#[0xb1]⟩ 1 none ∈ nm_Ts := ⟨nm_t1 148 rfl rfl, nm_t1 29 rfl rfl, nm_t1 30 rfl rfl⟩
theorem w_obj_1 : Cond.methodLink (nm_Own 1) 3 objectInit ∈ nm_Ts ∧ Cond.instanceMethod objectInit ∈ nm_Ts ∧ Cond.code objectInit ⟨#[0xb1]⟩ 1 none ∈ nm_Ts := ⟨nm_t1 185 rfl rfl, nm_t1 29 rfl rfl, nm_t1 30 rfl rfl⟩
theorem w_obj_2 : Cond.methodLink (nm_Own 2) 3 objectInit ∈ nm_Ts ∧ Cond.instanceMethod objectInit ∈ nm_Ts ∧ Cond.code objectInit ⟨#[0xb1]⟩ 1 none ∈ nm_Ts := ⟨nm_t2 13 rfl rfl, nm_t1 29 rfl rfl, nm_t1 30 rfl rfl⟩
theorem w_max_4 : Cond.methodLink (nm_Own 4) 21 Lib.Math.max.name ∈ nm_Ts ∧ Cond.static Lib.Math.max.name ∈ nm_Ts ∧ Cond.initialized "java/lang/Math" ∈ nm_Ts ∧ Cond.code Lib.Math.max.name Lib.Math.max.code 2 (some .int) ∈ nm_Ts := ⟨nm_t2 78 rfl rfl, nm_t2 79 rfl rfl, nm_t1 21 rfl rfl, nm_t2 80 rfl rfl⟩
theorem w_max_12 : Cond.methodLink (nm_Own 12) 77 Lib.Math.max.name ∈ nm_Ts ∧ Cond.static Lib.Math.max.name ∈ nm_Ts ∧ Cond.initialized "java/lang/Math" ∈ nm_Ts ∧ Cond.code Lib.Math.max.name Lib.Math.max.code 2 (some .int) ∈ nm_Ts := ⟨nm_t3 169 rfl rfl, nm_t2 79 rfl rfl, nm_t1 21 rfl rfl, nm_t2 80 rfl rfl⟩
theorem w_max_1 : Cond.methodLink (nm_Own 1) 70 Lib.Math.max.name ∈ nm_Ts ∧ Cond.static Lib.Math.max.name ∈ nm_Ts ∧ Cond.initialized "java/lang/Math" ∈ nm_Ts ∧ Cond.code Lib.Math.max.name Lib.Math.max.code 2 (some .int) ∈ nm_Ts := ⟨nm_t3 208 rfl rfl, nm_t2 79 rfl rfl, nm_t1 21 rfl rfl, nm_t2 80 rfl rfl⟩
theorem w_max_10 : Cond.methodLink (nm_Own 10) 135 Lib.Math.max.name ∈ nm_Ts ∧ Cond.static Lib.Math.max.name ∈ nm_Ts ∧ Cond.initialized "java/lang/Math" ∈ nm_Ts ∧ Cond.code Lib.Math.max.name Lib.Math.max.code 2 (some .int) ∈ nm_Ts := ⟨nm_t3 236 rfl rfl, nm_t2 79 rfl rfl, nm_t1 21 rfl rfl, nm_t2 80 rfl rfl⟩
theorem w_obj_11 : Cond.methodLink (nm_Own 11) 1 objectInit ∈ nm_Ts ∧ Cond.instanceMethod objectInit ∈ nm_Ts ∧ Cond.code objectInit ⟨#[0xb1]⟩ 1 none ∈ nm_Ts := ⟨nm_t4 82 rfl rfl, nm_t1 29 rfl rfl, nm_t1 30 rfl rfl⟩
end
section
theorem w_arr_int : Cond.arrayClass .int ∈ nm_Ts := nm_t1 50 rfl rfl
theorem w_arr_byte : Cond.arrayClass .byte ∈ nm_Ts := nm_t2 169 rfl rfl
theorem w_arr_short : Cond.arrayClass .short ∈ nm_Ts := nm_t4 141 rfl rfl
theorem w_arr_long : Cond.arrayClass .long ∈ nm_Ts := nm_t5 142 rfl rfl
theorem w_anew_0_9 : Cond.classLink (nm_Own 0) 9 "CardOffice$Deck" ∈ nm_Ts ∧ Cond.arrayOver (.object "CardOffice$Deck") ∈ nm_Ns := ⟨nm_t1 31 rfl rfl, nm_n1 32 rfl rfl⟩
theorem w_anew_0_15 : Cond.classLink (nm_Own 0) 15 "CardOffice$Board" ∈ nm_Ts ∧ Cond.arrayOver (.object "CardOffice$Board") ∈ nm_Ns := ⟨nm_t1 33 rfl rfl, nm_n1 34 rfl rfl⟩
theorem w_new_0_25 : Cond.classLink (nm_Own 0) 25 "CardOffice$FaultLight" ∈ nm_Ts ∧ Cond.instantiable "CardOffice$FaultLight" 2 ∈ nm_Ts ∧ Cond.initialized "CardOffice$FaultLight" ∈ nm_Ts := ⟨nm_t1 35 rfl rfl, nm_t1 36 rfl rfl, nm_t1 2 rfl rfl⟩
theorem w_new_0_32 : Cond.classLink (nm_Own 0) 32 "CardOffice$Sorter" ∈ nm_Ts ∧ Cond.instantiable "CardOffice$Sorter" 3 ∈ nm_Ts ∧ Cond.initialized "CardOffice$Sorter" ∈ nm_Ts := ⟨nm_t1 51 rfl rfl, nm_t1 52 rfl rfl, nm_t1 3 rfl rfl⟩
theorem w_new_0_39 : Cond.classLink (nm_Own 0) 39 "CardOffice$Collator" ∈ nm_Ts ∧ Cond.instantiable "CardOffice$Collator" 3 ∈ nm_Ts ∧ Cond.initialized "CardOffice$Collator" ∈ nm_Ts := ⟨nm_t1 70 rfl rfl, nm_t1 71 rfl rfl, nm_t1 4 rfl rfl⟩
theorem w_new_0_46 : Cond.classLink (nm_Own 0) 46 "CardOffice$Reproducer" ∈ nm_Ts ∧ Cond.instantiable "CardOffice$Reproducer" 1 ∈ nm_Ts ∧ Cond.initialized "CardOffice$Reproducer" ∈ nm_Ts := ⟨nm_t1 108 rfl rfl, nm_t1 109 rfl rfl, nm_t1 6 rfl rfl⟩
theorem w_new_0_53 : Cond.classLink (nm_Own 0) 53 "CardOffice$Tabulator" ∈ nm_Ts ∧ Cond.instantiable "CardOffice$Tabulator" 5 ∈ nm_Ts ∧ Cond.initialized "CardOffice$Tabulator" ∈ nm_Ts := ⟨nm_t1 137 rfl rfl, nm_t1 138 rfl rfl, nm_t1 8 rfl rfl⟩
theorem w_new_0_9 : Cond.classLink (nm_Own 0) 9 "CardOffice$Deck" ∈ nm_Ts ∧ Cond.instantiable "CardOffice$Deck" 2 ∈ nm_Ts ∧ Cond.initialized "CardOffice$Deck" ∈ nm_Ts := ⟨nm_t1 31 rfl rfl, nm_t1 77 rfl rfl, nm_t1 5 rfl rfl⟩
theorem w_new_0_15 : Cond.classLink (nm_Own 0) 15 "CardOffice$Board" ∈ nm_Ts ∧ Cond.instantiable "CardOffice$Board" 4 ∈ nm_Ts ∧ Cond.initialized "CardOffice$Board" ∈ nm_Ts := ⟨nm_t1 33 rfl rfl, nm_t1 181 rfl rfl, nm_t1 10 rfl rfl⟩
theorem w_anew_9_15 : Cond.classLink (nm_Own 9) 15 "CardOffice$Card" ∈ nm_Ts ∧ Cond.arrayOver (.object "CardOffice$Card") ∈ nm_Ns := ⟨nm_t1 57 rfl rfl, nm_n1 58 rfl rfl⟩
theorem w_new_3_7 : Cond.classLink (nm_Own 3) 7 "CardOffice$Deck" ∈ nm_Ts ∧ Cond.instantiable "CardOffice$Deck" 2 ∈ nm_Ts ∧ Cond.initialized "CardOffice$Deck" ∈ nm_Ts := ⟨nm_t1 76 rfl rfl, nm_t1 77 rfl rfl, nm_t1 5 rfl rfl⟩
theorem w_anew_4_9 : Cond.classLink (nm_Own 4) 9 "CardOffice$Card" ∈ nm_Ts ∧ Cond.arrayOver (.object "CardOffice$Card") ∈ nm_Ns := ⟨nm_t1 82 rfl rfl, nm_n1 58 rfl rfl⟩
theorem w_new_8_9 : Cond.classLink (nm_Own 8) 9 "CardOffice$Jacks" ∈ nm_Ts ∧ Cond.instantiable "CardOffice$Jacks" 3 ∈ nm_Ts ∧ Cond.initialized "CardOffice$Jacks" ∈ nm_Ts := ⟨nm_t1 114 rfl rfl, nm_t1 115 rfl rfl, nm_t1 7 rfl rfl⟩
theorem w_new_10_15 : Cond.classLink (nm_Own 10) 15 "CardOffice$Paper" ∈ nm_Ts ∧ Cond.instantiable "CardOffice$Paper" 2 ∈ nm_Ts ∧ Cond.initialized "CardOffice$Paper" ∈ nm_Ts := ⟨nm_t1 143 rfl rfl, nm_t1 144 rfl rfl, nm_t1 9 rfl rfl⟩
theorem w_new_10_22 : Cond.classLink (nm_Own 10) 22 "CardOffice$Jacks" ∈ nm_Ts ∧ Cond.instantiable "CardOffice$Jacks" 3 ∈ nm_Ts ∧ Cond.initialized "CardOffice$Jacks" ∈ nm_Ts := ⟨nm_t1 160 rfl rfl, nm_t1 115 rfl rfl, nm_t1 7 rfl rfl⟩
theorem w_new_0_74 : Cond.classLink (nm_Own 0) 74 "CardOffice$Card" ∈ nm_Ts ∧ Cond.instantiable "CardOffice$Card" 1 ∈ nm_Ts ∧ Cond.initialized "CardOffice$Card" ∈ nm_Ts := ⟨nm_t2 8 rfl rfl, nm_t2 9 rfl rfl, nm_t1 13 rfl rfl⟩
theorem w_new_8_59 : Cond.classLink (nm_Own 8) 59 "CardOffice$Card" ∈ nm_Ts ∧ Cond.instantiable "CardOffice$Card" 1 ∈ nm_Ts ∧ Cond.initialized "CardOffice$Card" ∈ nm_Ts := ⟨nm_t3 94 rfl rfl, nm_t2 9 rfl rfl, nm_t1 13 rfl rfl⟩
theorem w_new_13_8 : Cond.classLink (nm_Own 13) 8 "CardOffice" ∈ nm_Ts ∧ Cond.instantiable "CardOffice" 8 ∈ nm_Ts ∧ Cond.initialized "CardOffice" ∈ nm_Ts := ⟨nm_t1 23 rfl rfl, nm_t1 24 rfl rfl, nm_t1 1 rfl rfl⟩
theorem w_new_13_55 : Cond.classLink (nm_Own 13) 55 "CardOfficeModel" ∈ nm_Ts ∧ Cond.instantiable "CardOfficeModel" 19 ∈ nm_Ts ∧ Cond.initialized "CardOfficeModel" ∈ nm_Ts := ⟨nm_t4 77 rfl rfl, nm_t4 78 rfl rfl, nm_t1 12 rfl rfl⟩
theorem mk_fldF : nm_FldF 0 11 = true ∧ nm_FldF 0 17 = true ∧ nm_FldF 0 21 = true ∧ nm_FldF 0 28 = true ∧ nm_FldF 0 35 = true ∧ nm_FldF 0 42 = true ∧ nm_FldF 0 49 = true ∧ nm_FldF 0 56 = true ∧ nm_FldF 1 9 = true ∧ nm_FldF 1 15 = true ∧ nm_FldF 1 18 = true ∧ nm_FldF 1 27 = true ∧ nm_FldF 2 9 = true ∧ nm_FldF 3 10 = true ∧ nm_FldF 3 16 = true ∧ nm_FldF 3 23 = true ∧ nm_FldF 4 11 = true ∧ nm_FldF 4 17 = true ∧ nm_FldF 5 9 = true ∧ nm_FldF 5 15 = true ∧ nm_FldF 6 9 = true ∧ nm_FldF 6 15 = true ∧ nm_FldF 6 25 = true ∧ nm_FldF 7 11 = true ∧ nm_FldF 7 16 = true ∧ nm_FldF 8 14 = true ∧ nm_FldF 9 9 = true ∧ nm_FldF 9 17 = true ∧ nm_FldF 9 21 = true ∧ nm_FldF 10 9 = true ∧ nm_FldF 10 18 = true ∧ nm_FldF 10 27 = true ∧ nm_FldF 10 31 = true ∧ nm_FldF 10 34 = true ∧ nm_FldF 11 7 = true ∧ nm_FldF 11 13 = true ∧ nm_FldF 11 17 = true ∧ nm_FldF 11 21 = true ∧ nm_FldF 11 24 = true ∧ nm_FldF 11 27 = true ∧ nm_FldF 11 30 = true ∧ nm_FldF 11 33 = true ∧ nm_FldF 11 36 = true ∧ nm_FldF 11 39 = true ∧ nm_FldF 11 42 = true ∧ nm_FldF 11 45 = true ∧ nm_FldF 11 48 = true ∧ nm_FldF 11 52 = true ∧ nm_FldF 11 62 = true ∧ nm_FldF 11 105 = true ∧ nm_FldF 11 133 = true ∧ nm_FldF 11 148 = true ∧ nm_FldF 11 188 = true := by decide +kernel
end
section
theorem mk_lit : Int32.ofInt (-1) = -1 ∧ Int32.ofInt 0 = nI 0 ∧ Int32.ofInt 1 = nI 1 ∧ Int32.ofInt 2 = nI 2 ∧ Int32.ofInt 3 = nI 3 ∧ Int32.ofInt 4 = nI 4 ∧ Int32.ofInt 5 = nI 5 ∧ Int32.ofInt 6 = nI 6 ∧ (Int8.ofInt (-2)).toInt32 = -2 ∧ (Int8.ofInt 6).toInt32 = nI 6 ∧ (Int8.ofInt 8).toInt32 = nI 8 ∧ (Int8.ofInt 9).toInt32 = nI 9 ∧ (Int8.ofInt 10).toInt32 = nI 10 ∧ (Int8.ofInt 11).toInt32 = nI 11 ∧ (Int8.ofInt 14).toInt32 = nI 14 ∧ (Int8.ofInt 15).toInt32 = nI 15 ∧ (Int8.ofInt 16).toInt32 = nI 16 ∧ (Int8.ofInt 24).toInt32 = nI 24 ∧ (Int8.ofInt 26).toInt32 = nI 26 ∧ (Int8.ofInt 31).toInt32 = nI 31 ∧ (Int8.ofInt 32).toInt32 = nI 32 ∧ (Int8.ofInt 40).toInt32 = nI 40 ∧ (Int8.ofInt 48).toInt32 = nI 48 ∧ (Int8.ofInt 56).toInt32 = nI 56 ∧ (Int8.ofInt 57).toInt32 = nI 57 ∧ (Int8.ofInt 64).toInt32 = nI 64 ∧ (Int8.ofInt 65).toInt32 = nI 65 ∧ (Int8.ofInt 73).toInt32 = nI 73 ∧ (Int8.ofInt 74).toInt32 = nI 74 ∧ (Int8.ofInt 81).toInt32 = nI 81 ∧ (Int8.ofInt 83).toInt32 = nI 83 ∧ (Int8.ofInt 88).toInt32 = nI 88 ∧ (Int8.ofInt 90).toInt32 = nI 90 ∧ (Int8.ofInt 96).toInt32 = nI 96 ∧ (Int8.ofInt 99).toInt32 = nI 99 ∧ (Int8.ofInt 100).toInt32 = nI 100 ∧ (Int16.ofInt 160).toInt32 = nI 160 ∧ (Int16.ofInt 200).toInt32 = nI 200 ∧ (Int16.ofInt 255).toInt32 = nI 255 ∧ (Int16.ofInt 1600).toInt32 = nI 1600 ∧ (Int16.ofInt 2400).toInt32 = nI 2400 ∧ (Int16.ofInt 3200).toInt32 = nI 3200 := by decide +kernel
theorem mk_fin : ((0 : Fin 4).val = 0) ∧ ((1 : Fin 4).val = 1) ∧ ((2 : Fin 4).val = 2) ∧ ((3 : Fin 4).val = 3) := by decide
theorem mk_cat : (∀ x, (Value.int x).category = 1) ∧ (∀ x, (Value.long x).category = 2) ∧ (∀ x, (Value.ref x).category = 1) ∧ Value.null.category = 1 := ⟨fun _ => rfl, fun _ => rfl, fun _ => rfl, rfl⟩
theorem mk_fit : (∀ x, mz_fit .int (.int x) = True) ∧ (∀ c a, mz_fit (.object c) (.ref a) = True) ∧ (∀ c a, mz_fit (.array c) (.ref a) = True) ∧ (mz_fit .boolean (.int (nI 0)) = True) ∧ (mz_fit .boolean (.int (nI 1)) = True) := ⟨fun _ => eq_true ⟨rfl, rfl⟩, fun _ _ => eq_true ⟨rfl, rfl⟩, fun _ _ => eq_true ⟨rfl, rfl⟩, eq_true ⟨by decide +kernel, by decide +kernel⟩, eq_true ⟨by decide +kernel, by decide +kernel⟩⟩
theorem mk_nar : (∀ x, narrow .int (.int x) = .int x) ∧ (narrow .boolean (.int (nI 0)) = .int (nI 0)) ∧ (narrow .boolean (.int (nI 1)) = .int (nI 1)) := ⟨fun _ => rfl, by decide +kernel, by decide +kernel⟩
theorem mk_fld : nm_FTy 0 0 = .array (.object "CardOffice$Deck") ∧ nm_Fin 0 0 = true ∧ nm_FTy 0 1 = .array (.object "CardOffice$Board") ∧ nm_Fin 0 1 = true ∧ nm_FTy 0 2 = .array (.int) ∧ nm_Fin 0 2 = true ∧ nm_FTy 0 3 = .object "CardOffice$FaultLight" ∧ nm_Fin 0 3 = true ∧ nm_FTy 0 4 = .object "CardOffice$Sorter" ∧ nm_Fin 0 4 = true ∧ nm_FTy 0 5 = .object "CardOffice$Collator" ∧ nm_Fin 0 5 = true ∧ nm_FTy 0 6 = .object "CardOffice$Reproducer" ∧ nm_Fin 0 6 = true ∧ nm_FTy 0 7 = .object "CardOffice$Tabulator" ∧ nm_Fin 0 7 = true ∧ nm_FTy 1 0 = .array (.int) ∧ nm_Fin 1 0 = true ∧ nm_FTy 1 1 = .array (.int) ∧ nm_Fin 1 1 = true ∧ nm_FTy 1 2 = .array (.int) ∧ nm_Fin 1 2 = true ∧ nm_FTy 1 3 = .int ∧ nm_Fin 1 3 = false ∧ nm_FTy 2 0 = .array (.int) ∧ nm_Fin 2 0 = true ∧ nm_FTy 3 0 = .object "CardOffice$Deck" ∧ nm_Fin 3 0 = true ∧ nm_FTy 3 1 = .object "CardOffice$Deck" ∧ nm_Fin 3 1 = true ∧ nm_FTy 3 2 = .int ∧ nm_Fin 3 2 = false ∧ nm_FTy 4 0 = .array (.object "CardOffice$Card") ∧ nm_Fin 4 0 = true ∧ nm_FTy 4 1 = .int ∧ nm_Fin 4 1 = false ∧ nm_FTy 5 0 = .int ∧ nm_Fin 5 0 = false ∧ nm_FTy 5 1 = .int ∧ nm_Fin 5 1 = false ∧ nm_FTy 6 0 = .int ∧ nm_Fin 6 0 = true ∧ nm_FTy 6 1 = .array (.int) ∧ nm_Fin 6 1 = true ∧ nm_FTy 6 2 = .boolean ∧ nm_Fin 6 2 = false ∧ nm_FTy 7 0 = .array (.array (.int)) ∧ nm_Fin 7 0 = true ∧ nm_FTy 7 1 = .int ∧ nm_Fin 7 1 = false ∧ nm_FTy 8 0 = .object "CardOffice$Jacks" ∧ nm_Fin 8 0 = true ∧ nm_FTy 9 0 = .array (.int) ∧ nm_Fin 9 0 = true ∧ nm_FTy 9 1 = .array (.object "CardOffice$Card") ∧ nm_Fin 9 1 = true ∧ nm_FTy 9 2 = .int ∧ nm_Fin 9 2 = false ∧ nm_FTy 10 0 = .array (.int) ∧ nm_Fin 10 0 = true ∧ nm_FTy 10 1 = .object "CardOffice$Paper" ∧ nm_Fin 10 1 = true ∧ nm_FTy 10 2 = .object "CardOffice$Jacks" ∧ nm_Fin 10 2 = true ∧ nm_FTy 10 3 = .object "CardOffice$Jacks" ∧ nm_Fin 10 3 = true ∧ nm_FTy 10 4 = .object "CardOffice$Jacks" ∧ nm_Fin 10 4 = true ∧ nm_FTy 11 0 = .int ∧ nm_Fin 11 0 = false ∧ nm_FTy 11 1 = .int ∧ nm_Fin 11 1 = false ∧ nm_FTy 11 2 = .array (.byte) ∧ nm_Fin 11 2 = true ∧ nm_FTy 11 3 = .array (.short) ∧ nm_Fin 11 3 = true ∧ nm_FTy 11 4 = .array (.int) ∧ nm_Fin 11 4 = true ∧ nm_FTy 11 5 = .array (.short) ∧ nm_Fin 11 5 = true ∧ nm_FTy 11 6 = .array (.short) ∧ nm_Fin 11 6 = true ∧ nm_FTy 11 7 = .array (.byte) ∧ nm_Fin 11 7 = true ∧ nm_FTy 11 8 = .array (.byte) ∧ nm_Fin 11 8 = true ∧ nm_FTy 11 9 = .array (.int) ∧ nm_Fin 11 9 = true ∧ nm_FTy 11 10 = .array (.int) ∧ nm_Fin 11 10 = true ∧ nm_FTy 11 11 = .array (.int) ∧ nm_Fin 11 11 = true ∧ nm_FTy 11 12 = .array (.int) ∧ nm_Fin 11 12 = true ∧ nm_FTy 11 13 = .array (.byte) ∧ nm_Fin 11 13 = true ∧ nm_FTy 11 14 = .int ∧ nm_Fin 11 14 = false ∧ nm_FTy 11 15 = .int ∧ nm_Fin 11 15 = false ∧ nm_FTy 11 16 = .int ∧ nm_Fin 11 16 = false ∧ nm_FTy 11 17 = .int ∧ nm_Fin 11 17 = false ∧ nm_FTy 11 18 = .int ∧ nm_Fin 11 18 = false := ⟨rfl, rfl, rfl, rfl, rfl, rfl, rfl, rfl, rfl, rfl, rfl, rfl, rfl, rfl, rfl, rfl, rfl, rfl, rfl, rfl, rfl, rfl, rfl, rfl, rfl, rfl, rfl, rfl, rfl, rfl, rfl, rfl, rfl, rfl, rfl, rfl, rfl, rfl, rfl, rfl, rfl, rfl, rfl, rfl, rfl, rfl, rfl, rfl, rfl, rfl, rfl, rfl, rfl, rfl, rfl, rfl, rfl, rfl, rfl, rfl, rfl, rfl, rfl, rfl, rfl, rfl, rfl, rfl, rfl, rfl, rfl, rfl, rfl, rfl, rfl, rfl, rfl, rfl, rfl, rfl, rfl, rfl, rfl, rfl, rfl, rfl, rfl, rfl, rfl, rfl, rfl, rfl, rfl, rfl, rfl, rfl, rfl, rfl, rfl, rfl, rfl, rfl, rfl, rfl, rfl, rfl⟩
theorem ft_0_0 : nm_FTy 0 0 = .array (.object "CardOffice$Deck") := rfl
theorem fn_0_0 : nm_Fin 0 0 = true := rfl
theorem ft_0_1 : nm_FTy 0 1 = .array (.object "CardOffice$Board") := rfl
theorem fn_0_1 : nm_Fin 0 1 = true := rfl
theorem ft_0_2 : nm_FTy 0 2 = .array (.int) := rfl
theorem fn_0_2 : nm_Fin 0 2 = true := rfl
theorem ft_0_3 : nm_FTy 0 3 = .object "CardOffice$FaultLight" := rfl
theorem fn_0_3 : nm_Fin 0 3 = true := rfl
theorem ft_0_4 : nm_FTy 0 4 = .object "CardOffice$Sorter" := rfl
theorem fn_0_4 : nm_Fin 0 4 = true := rfl
theorem ft_0_5 : nm_FTy 0 5 = .object "CardOffice$Collator" := rfl
theorem fn_0_5 : nm_Fin 0 5 = true := rfl
theorem ft_0_6 : nm_FTy 0 6 = .object "CardOffice$Reproducer" := rfl
theorem fn_0_6 : nm_Fin 0 6 = true := rfl
theorem ft_0_7 : nm_FTy 0 7 = .object "CardOffice$Tabulator" := rfl
theorem fn_0_7 : nm_Fin 0 7 = true := rfl
theorem ft_1_0 : nm_FTy 1 0 = .array (.int) := rfl
theorem fn_1_0 : nm_Fin 1 0 = true := rfl
theorem ft_1_1 : nm_FTy 1 1 = .array (.int) := rfl
theorem fn_1_1 : nm_Fin 1 1 = true := rfl
theorem ft_1_2 : nm_FTy 1 2 = .array (.int) := rfl
theorem fn_1_2 : nm_Fin 1 2 = true := rfl
theorem ft_1_3 : nm_FTy 1 3 = .int := rfl
theorem fn_1_3 : nm_Fin 1 3 = false := rfl
theorem ft_2_0 : nm_FTy 2 0 = .array (.int) := rfl
theorem fn_2_0 : nm_Fin 2 0 = true := rfl
theorem ft_3_0 : nm_FTy 3 0 = .object "CardOffice$Deck" := rfl
theorem fn_3_0 : nm_Fin 3 0 = true := rfl
theorem ft_3_1 : nm_FTy 3 1 = .object "CardOffice$Deck" := rfl
theorem fn_3_1 : nm_Fin 3 1 = true := rfl
theorem ft_3_2 : nm_FTy 3 2 = .int := rfl
theorem fn_3_2 : nm_Fin 3 2 = false := rfl
theorem ft_4_0 : nm_FTy 4 0 = .array (.object "CardOffice$Card") := rfl
theorem fn_4_0 : nm_Fin 4 0 = true := rfl
theorem ft_4_1 : nm_FTy 4 1 = .int := rfl
theorem fn_4_1 : nm_Fin 4 1 = false := rfl
theorem ft_5_0 : nm_FTy 5 0 = .int := rfl
theorem fn_5_0 : nm_Fin 5 0 = false := rfl
theorem ft_5_1 : nm_FTy 5 1 = .int := rfl
theorem fn_5_1 : nm_Fin 5 1 = false := rfl
theorem ft_6_0 : nm_FTy 6 0 = .int := rfl
theorem fn_6_0 : nm_Fin 6 0 = true := rfl
theorem ft_6_1 : nm_FTy 6 1 = .array (.int) := rfl
theorem fn_6_1 : nm_Fin 6 1 = true := rfl
theorem ft_6_2 : nm_FTy 6 2 = .boolean := rfl
theorem fn_6_2 : nm_Fin 6 2 = false := rfl
theorem ft_7_0 : nm_FTy 7 0 = .array (.array (.int)) := rfl
theorem fn_7_0 : nm_Fin 7 0 = true := rfl
theorem ft_7_1 : nm_FTy 7 1 = .int := rfl
theorem fn_7_1 : nm_Fin 7 1 = false := rfl
theorem ft_8_0 : nm_FTy 8 0 = .object "CardOffice$Jacks" := rfl
theorem fn_8_0 : nm_Fin 8 0 = true := rfl
theorem ft_9_0 : nm_FTy 9 0 = .array (.int) := rfl
theorem fn_9_0 : nm_Fin 9 0 = true := rfl
theorem ft_9_1 : nm_FTy 9 1 = .array (.object "CardOffice$Card") := rfl
theorem fn_9_1 : nm_Fin 9 1 = true := rfl
theorem ft_9_2 : nm_FTy 9 2 = .int := rfl
theorem fn_9_2 : nm_Fin 9 2 = false := rfl
theorem ft_10_0 : nm_FTy 10 0 = .array (.int) := rfl
theorem fn_10_0 : nm_Fin 10 0 = true := rfl
theorem ft_10_1 : nm_FTy 10 1 = .object "CardOffice$Paper" := rfl
theorem fn_10_1 : nm_Fin 10 1 = true := rfl
theorem ft_10_2 : nm_FTy 10 2 = .object "CardOffice$Jacks" := rfl
theorem fn_10_2 : nm_Fin 10 2 = true := rfl
theorem ft_10_3 : nm_FTy 10 3 = .object "CardOffice$Jacks" := rfl
theorem fn_10_3 : nm_Fin 10 3 = true := rfl
theorem ft_10_4 : nm_FTy 10 4 = .object "CardOffice$Jacks" := rfl
theorem fn_10_4 : nm_Fin 10 4 = true := rfl
theorem ft_11_0 : nm_FTy 11 0 = .int := rfl
theorem fn_11_0 : nm_Fin 11 0 = false := rfl
theorem ft_11_1 : nm_FTy 11 1 = .int := rfl
theorem fn_11_1 : nm_Fin 11 1 = false := rfl
theorem ft_11_2 : nm_FTy 11 2 = .array (.byte) := rfl
theorem fn_11_2 : nm_Fin 11 2 = true := rfl
theorem ft_11_3 : nm_FTy 11 3 = .array (.short) := rfl
theorem fn_11_3 : nm_Fin 11 3 = true := rfl
theorem ft_11_4 : nm_FTy 11 4 = .array (.int) := rfl
theorem fn_11_4 : nm_Fin 11 4 = true := rfl
theorem ft_11_5 : nm_FTy 11 5 = .array (.short) := rfl
theorem fn_11_5 : nm_Fin 11 5 = true := rfl
theorem ft_11_6 : nm_FTy 11 6 = .array (.short) := rfl
theorem fn_11_6 : nm_Fin 11 6 = true := rfl
theorem ft_11_7 : nm_FTy 11 7 = .array (.byte) := rfl
theorem fn_11_7 : nm_Fin 11 7 = true := rfl
theorem ft_11_8 : nm_FTy 11 8 = .array (.byte) := rfl
theorem fn_11_8 : nm_Fin 11 8 = true := rfl
theorem ft_11_9 : nm_FTy 11 9 = .array (.int) := rfl
theorem fn_11_9 : nm_Fin 11 9 = true := rfl
theorem ft_11_10 : nm_FTy 11 10 = .array (.int) := rfl
theorem fn_11_10 : nm_Fin 11 10 = true := rfl
theorem ft_11_11 : nm_FTy 11 11 = .array (.int) := rfl
theorem fn_11_11 : nm_Fin 11 11 = true := rfl
theorem ft_11_12 : nm_FTy 11 12 = .array (.int) := rfl
theorem fn_11_12 : nm_Fin 11 12 = true := rfl
theorem ft_11_13 : nm_FTy 11 13 = .array (.byte) := rfl
theorem fn_11_13 : nm_Fin 11 13 = true := rfl
theorem ft_11_14 : nm_FTy 11 14 = .int := rfl
theorem fn_11_14 : nm_Fin 11 14 = false := rfl
theorem ft_11_15 : nm_FTy 11 15 = .int := rfl
theorem fn_11_15 : nm_Fin 11 15 = false := rfl
theorem ft_11_16 : nm_FTy 11 16 = .int := rfl
theorem fn_11_16 : nm_Fin 11 16 = false := rfl
theorem ft_11_17 : nm_FTy 11 17 = .int := rfl
theorem fn_11_17 : nm_Fin 11 17 = false := rfl
theorem ft_11_18 : nm_FTy 11 18 = .int := rfl
theorem fn_11_18 : nm_Fin 11 18 = false := rfl
theorem mk_cls : nm_Cl[0]? = some ("CardOffice", nm_T0, 8) ∧ nm_Cl[1]? = some ("CardOffice$Board", nm_T1, 4) ∧ nm_Cl[2]? = some ("CardOffice$Card", nm_T2, 1) ∧ nm_Cl[3]? = some ("CardOffice$Collator", nm_T3, 3) ∧ nm_Cl[4]? = some ("CardOffice$Deck", nm_T4, 2) ∧ nm_Cl[5]? = some ("CardOffice$FaultLight", nm_T5, 2) ∧ nm_Cl[6]? = some ("CardOffice$Jacks", nm_T6, 3) ∧ nm_Cl[7]? = some ("CardOffice$Paper", nm_T7, 2) ∧ nm_Cl[8]? = some ("CardOffice$Reproducer", nm_T8, 1) ∧ nm_Cl[9]? = some ("CardOffice$Sorter", nm_T9, 3) ∧ nm_Cl[10]? = some ("CardOffice$Tabulator", nm_T10, 5) ∧ nm_Cl[11]? = some ("CardOfficeModel", nm_T11, 19) := ⟨rfl, rfl, rfl, rfl, rfl, rfl, rfl, rfl, rfl, rfl, rfl, rfl⟩
theorem mk_ty : nm_Ty[0]? = some (.int) ∧ nm_Ty[1]? = some (.byte) ∧ nm_Ty[2]? = some (.short) ∧ nm_Ty[3]? = some (.long) ∧ nm_Ty[4]? = some (.object "CardOffice$Deck") ∧ nm_Ty[5]? = some (.object "CardOffice$Board") ∧ nm_Ty[6]? = some (.object "CardOffice$Card") ∧ nm_Ty[7]? = some (.array .int) := ⟨rfl, rfl, rfl, rfl, rfl, rfl, rfl, rfl⟩
theorem mk_isr : (∀ c, (FieldType.object c).isReference = true) ∧ (∀ c, (FieldType.array c).isReference = true) := ⟨fun _ => rfl, fun _ => rfl⟩
theorem mk_get0 {a : Option Value} {l : mz_L} : (a :: l)[0]? = some a := rfl
theorem mk_get1 {a b : Option Value} {l : mz_L} : (a :: b :: l)[1]? = some b := rfl
theorem mk_Ct {G : mz_G} {X : mz_E} {y : MethodName} {cc : ByteArray} {nL : Nat} {ret : Option FieldType} {rm : Room} {vs : List Value} {n : Nat} {f : mz_H} {post : Option Value → Nat → mz_H → Prop} (cn : Nat) (ini : Bool) (l : mz_L) (hy : plainName y.cls = true) (hcn : y.cls = nm_Own cn) (hin : ini = true → y.name = "<init>") (hlen : (mz_la vs).length ≤ nL) (hl : mz_l0 nL vs = l)
    (h : mz_X G X cn ini cc nL ret rm post (fun _ _ _ => False) 0 l [] 0 0 n f) (hh : cn = 13 → nm_Hd cc = [] := by decide) : mz_Ct G X y cc nL ret rm vs n f post := mz_Ct_of cn ini hy hcn hin hlen hh (by rw [hl]; exact h)
def mk_b (c : Prop) [Decidable c] : Int32 := if c then nI 1 else nI 0
theorem mk_b_t {c : Prop} [Decidable c] (h : c) : mk_b c = nI 1 := if_pos h
theorem mk_b_f {c : Prop} [Decidable c] (h : ¬ c) : mk_b c = nI 0 := if_neg h
theorem mk_b0 (c : Prop) [Decidable c] : (mk_b c = 0) = ¬ c := by
  by_cases h : c
  · rw [mk_b_t h]; simp [h]; decide
  · rw [mk_b_f h]; simp [h]; decide
theorem mk_b1 (c : Prop) [Decidable c] : (nI 1 = mk_b c) = c := by
  by_cases h : c
  · rw [mk_b_t h]; simp [h]
  · rw [mk_b_f h]; simp [h]; decide
theorem mk_b2 (c : Prop) [Decidable c] : (nI 0 = mk_b c) = ¬ c := by
  by_cases h : c
  · rw [mk_b_t h]; simp [h]; decide
  · rw [mk_b_f h]; simp [h]
theorem mk_bn (c : Prop) [Decidable c] : (narrow .boolean (.int (mk_b c)) = .int (mk_b c)) = True := by
  by_cases h : c
  · rw [mk_b_t h]; simp; decide +kernel
  · rw [mk_b_f h]; simp; decide +kernel
theorem mk_lt (x y : Int32) : (x < y) = (x.toInt < y.toInt) := propext Int32.lt_iff_toInt_lt
theorem mk_le (x y : Int32) : (x ≤ y) = (x.toInt ≤ y.toInt) := propext Int32.le_iff_toInt_le
theorem mk_eq (x y : Int32) : (x = y) = (x.toInt = y.toInt) := propext Int32.toInt_inj.symm
abbrev aI (N : Nat) (g : Nat → Int32) : mz_C := .inl (0, N, .inl g)
abbrev aB (N : Nat) (g : Nat → Int32) : mz_C := .inl (1, N, .inl g)
abbrev aS (N : Nat) (g : Nat → Int32) : mz_C := .inl (2, N, .inl g)
abbrev aQ (t N : Nat) (g : Nat → Option Nat) : mz_C := .inl (t, N, .inr (.inr (.inr (.inr g))))
theorem mk_ti : (nI 0).toInt = 0 ∧ (nI 1).toInt = 1 ∧ (nI 2).toInt = 2 ∧ (nI 3).toInt = 3 ∧ (nI 4).toInt = 4 ∧ (nI 5).toInt = 5 ∧ (nI 6).toInt = 6 ∧ (nI 8).toInt = 8 ∧ (nI 9).toInt = 9 ∧ (nI 10).toInt = 10 ∧ (nI 11).toInt = 11 ∧ (nI 14).toInt = 14 ∧ (nI 15).toInt = 15 ∧ (nI 16).toInt = 16 ∧ (nI 24).toInt = 24 ∧ (nI 26).toInt = 26 ∧ (nI 31).toInt = 31 ∧ (nI 32).toInt = 32 ∧ (nI 40).toInt = 40 ∧ (nI 48).toInt = 48 ∧ (nI 56).toInt = 56 ∧ (nI 57).toInt = 57 ∧ (nI 64).toInt = 64 ∧ (nI 65).toInt = 65 ∧ (nI 73).toInt = 73 ∧ (nI 74).toInt = 74 ∧ (nI 81).toInt = 81 ∧ (nI 83).toInt = 83 ∧ (nI 88).toInt = 88 ∧ (nI 90).toInt = 90 ∧ (nI 96).toInt = 96 ∧ (nI 99).toInt = 99 ∧ (nI 100).toInt = 100 ∧ (nI 160).toInt = 160 ∧ (nI 200).toInt = 200 ∧ (nI 255).toInt = 255 ∧ (nI 1600).toInt = 1600 ∧ (nI 2400).toInt = 2400 ∧ (nI 3200).toInt = 3200 ∧ (0 : Int32).toInt = 0 ∧ (-1 : Int32).toInt = -1 := by decide +kernel
def mk_X : mz_E := fun _ => none
def mk_pw (k : Nat) : Int32 := if k = 0 then nI 1 else if k = 1 then nI 10 else if k = 2 then nI 100 else if k = 3 then nI 1000 else if k = 4 then nI 10000 else if k = 5 then nI 100000 else nI 1000000
def mk_P : mz_E := fun a => if a = 1000000000001 then some (7, mk_pw) else none
theorem mk_sta : nm_Sta 12 45 = some 1000000000001 ∧ nm_Sta 1 64 = some 1000000000001 ∧ nm_Sta 10 126 = some 1000000000001 := by decide +kernel
theorem mk_con : nm_Con 11 206 = some (nI 999999) ∧ nm_ConL 12 39 = some (-1) ∧ nm_ConL 12 43 = some (10) ∧ nm_ConL 12 41 = some (5) ∧ nm_ConL 11 69 = some (255) ∧ nm_ConL 11 172 = some (5) ∧ nm_ConL 11 161 = some (10) ∧ nm_ConL 13 58 = some (4294967295) := by decide +kernel
theorem mk_P1 : mk_P 1000000000001 = some (7, mk_pw) := rfl
theorem j_Office_init_89 : mz_t 89 22 = 111 ∧ (0 ≤ ((89 : Nat) : Int) + 22) := by decide +kernel
theorem j_Office_init_108 : mz_t 108 (-22) = 86 ∧ (0 ≤ ((108 : Nat) : Int) + (-22)) := by decide +kernel
theorem j_Office_init_115 : mz_t 115 22 = 137 ∧ (0 ≤ ((115 : Nat) : Int) + 22) := by decide +kernel
theorem j_Office_init_134 : mz_t 134 (-21) = 113 ∧ (0 ≤ ((134 : Nat) : Int) + (-21)) := by decide +kernel
theorem j_Office_init : mz_t 89 22 = 111 ∧ (0 ≤ ((89 : Nat) : Int) + 22) ∧ mz_t 108 (-22) = 86 ∧ (0 ≤ ((108 : Nat) : Int) + (-22)) ∧ mz_t 115 22 = 137 ∧ (0 ≤ ((115 : Nat) : Int) + 22) ∧ mz_t 134 (-21) = 113 ∧ (0 ≤ ((134 : Nat) : Int) + (-21)) := by decide +kernel
theorem j_Arrays_fill_7 : mz_t 7 13 = 20 ∧ (0 ≤ ((7 : Nat) : Int) + 13) := by decide +kernel
theorem j_Arrays_fill_17 : mz_t 17 (-12) = 5 ∧ (0 ≤ ((17 : Nat) : Int) + (-12)) := by decide +kernel
theorem j_Arrays_fill : mz_t 7 13 = 20 ∧ (0 ≤ ((7 : Nat) : Int) + 13) ∧ mz_t 17 (-12) = 5 ∧ (0 ≤ ((17 : Nat) : Int) + (-12)) := by decide +kernel
theorem j_Office_card_4 : mz_t 4 13 = 17 ∧ (0 ≤ ((4 : Nat) : Int) + 13) := by decide +kernel
theorem j_Office_card_14 : mz_t 14 5 = 19 ∧ (0 ≤ ((14 : Nat) : Int) + 5) := by decide +kernel
theorem j_Office_card_25 : mz_t 25 14 = 39 ∧ (0 ≤ ((25 : Nat) : Int) + 14) := by decide +kernel
theorem j_Office_card_36 : mz_t 36 5 = 41 ∧ (0 ≤ ((36 : Nat) : Int) + 5) := by decide +kernel
theorem j_Office_card_57 : mz_t 57 24 = 81 ∧ (0 ≤ ((57 : Nat) : Int) + 24) := by decide +kernel
theorem j_Office_card_78 : mz_t 78 (-25) = 53 ∧ (0 ≤ ((78 : Nat) : Int) + (-25)) := by decide +kernel
theorem j_Office_card : mz_t 4 13 = 17 ∧ (0 ≤ ((4 : Nat) : Int) + 13) ∧ mz_t 14 5 = 19 ∧ (0 ≤ ((14 : Nat) : Int) + 5) ∧ mz_t 25 14 = 39 ∧ (0 ≤ ((25 : Nat) : Int) + 14) ∧ mz_t 36 5 = 41 ∧ (0 ≤ ((36 : Nat) : Int) + 5) ∧ mz_t 57 24 = 81 ∧ (0 ≤ ((57 : Nat) : Int) + 24) ∧ mz_t 78 (-25) = 53 ∧ (0 ≤ ((78 : Nat) : Int) + (-25)) := by decide +kernel
theorem j_Office_isDeck_1 : mz_t 1 13 = 14 ∧ (0 ≤ ((1 : Nat) : Int) + 13) := by decide +kernel
theorem j_Office_isDeck_7 : mz_t 7 7 = 14 ∧ (0 ≤ ((7 : Nat) : Int) + 7) := by decide +kernel
theorem j_Office_isDeck_11 : mz_t 11 4 = 15 ∧ (0 ≤ ((11 : Nat) : Int) + 4) := by decide +kernel
theorem j_Office_isDeck : mz_t 1 13 = 14 ∧ (0 ≤ ((1 : Nat) : Int) + 13) ∧ mz_t 7 7 = 14 ∧ (0 ≤ ((7 : Nat) : Int) + 7) ∧ mz_t 11 4 = 15 ∧ (0 ≤ ((11 : Nat) : Int) + 4) := by decide +kernel
theorem j_Office_cardsInAll_7 : mz_t 7 21 = 28 ∧ (0 ≤ ((7 : Nat) : Int) + 21) := by decide +kernel
theorem j_Office_cardsInAll_25 : mz_t 25 (-21) = 4 ∧ (0 ≤ ((25 : Nat) : Int) + (-21)) := by decide +kernel
theorem j_Office_cardsInAll : mz_t 7 21 = 28 ∧ (0 ≤ ((7 : Nat) : Int) + 21) ∧ mz_t 25 (-21) = 4 ∧ (0 ≤ ((25 : Nat) : Int) + (-21)) := by decide +kernel
theorem j_Office_readColumns_7 : mz_t 7 47 = 54 ∧ (0 ≤ ((7 : Nat) : Int) + 47) := by decide +kernel
theorem j_Office_readColumns_32 : mz_t 32 5 = 37 ∧ (0 ≤ ((32 : Nat) : Int) + 5) := by decide +kernel
theorem j_Office_readColumns_51 : mz_t 51 (-48) = 3 ∧ (0 ≤ ((51 : Nat) : Int) + (-48)) := by decide +kernel
theorem j_Office_readColumns : mz_t 7 47 = 54 ∧ (0 ≤ ((7 : Nat) : Int) + 47) ∧ mz_t 32 5 = 37 ∧ (0 ≤ ((32 : Nat) : Int) + 5) ∧ mz_t 51 (-48) = 3 ∧ (0 ≤ ((51 : Nat) : Int) + (-48)) := by decide +kernel
theorem j_Office_isSign_3 : mz_t 3 27 = 30 ∧ (0 ≤ ((3 : Nat) : Int) + 27) := by decide +kernel
theorem j_Office_isSign_9 : mz_t 9 9 = 18 ∧ (0 ≤ ((9 : Nat) : Int) + 9) := by decide +kernel
theorem j_Office_isSign_15 : mz_t 15 15 = 30 ∧ (0 ≤ ((15 : Nat) : Int) + 15) := by decide +kernel
theorem j_Office_isSign_21 : mz_t 21 13 = 34 ∧ (0 ≤ ((21 : Nat) : Int) + 13) := by decide +kernel
theorem j_Office_isSign_27 : mz_t 27 7 = 34 ∧ (0 ≤ ((27 : Nat) : Int) + 7) := by decide +kernel
theorem j_Office_isSign_31 : mz_t 31 4 = 35 ∧ (0 ≤ ((31 : Nat) : Int) + 4) := by decide +kernel
theorem j_Office_isSign : mz_t 3 27 = 30 ∧ (0 ≤ ((3 : Nat) : Int) + 27) ∧ mz_t 9 9 = 18 ∧ (0 ≤ ((9 : Nat) : Int) + 9) ∧ mz_t 15 15 = 30 ∧ (0 ≤ ((15 : Nat) : Int) + 15) ∧ mz_t 21 13 = 34 ∧ (0 ≤ ((21 : Nat) : Int) + 13) ∧ mz_t 27 7 = 34 ∧ (0 ≤ ((27 : Nat) : Int) + 7) ∧ mz_t 31 4 = 35 ∧ (0 ≤ ((31 : Nat) : Int) + 4) := by decide +kernel
theorem j_Office_wire_4 : mz_t 4 17 = 21 ∧ (0 ≤ ((4 : Nat) : Int) + 17) := by decide +kernel
theorem j_Office_wire_11 : mz_t 11 10 = 21 ∧ (0 ≤ ((11 : Nat) : Int) + 10) := by decide +kernel
theorem j_Office_wire_18 : mz_t 18 5 = 23 ∧ (0 ≤ ((18 : Nat) : Int) + 5) := by decide +kernel
theorem j_Office_wire : mz_t 4 17 = 21 ∧ (0 ≤ ((4 : Nat) : Int) + 17) ∧ mz_t 11 10 = 21 ∧ (0 ≤ ((11 : Nat) : Int) + 10) ∧ mz_t 18 5 = 23 ∧ (0 ≤ ((18 : Nat) : Int) + 5) := by decide +kernel
theorem j_Office_isBoard_1 : mz_t 1 12 = 13 ∧ (0 ≤ ((1 : Nat) : Int) + 12) := by decide +kernel
theorem j_Office_isBoard_6 : mz_t 6 7 = 13 ∧ (0 ≤ ((6 : Nat) : Int) + 7) := by decide +kernel
theorem j_Office_isBoard_10 : mz_t 10 4 = 14 ∧ (0 ≤ ((10 : Nat) : Int) + 4) := by decide +kernel
theorem j_Office_isBoard : mz_t 1 12 = 13 ∧ (0 ≤ ((1 : Nat) : Int) + 12) ∧ mz_t 6 7 = 13 ∧ (0 ≤ ((6 : Nat) : Int) + 7) ∧ mz_t 10 4 = 14 ∧ (0 ≤ ((10 : Nat) : Int) + 4) := by decide +kernel
theorem j_Office_isFromJack_1 : mz_t 1 9 = 10 ∧ (0 ≤ ((1 : Nat) : Int) + 9) := by decide +kernel
theorem j_Office_isFromJack_7 : mz_t 7 15 = 22 ∧ (0 ≤ ((7 : Nat) : Int) + 15) := by decide +kernel
theorem j_Office_isFromJack_13 : mz_t 13 13 = 26 ∧ (0 ≤ ((13 : Nat) : Int) + 13) := by decide +kernel
theorem j_Office_isFromJack_19 : mz_t 19 7 = 26 ∧ (0 ≤ ((19 : Nat) : Int) + 7) := by decide +kernel
theorem j_Office_isFromJack_23 : mz_t 23 4 = 27 ∧ (0 ≤ ((23 : Nat) : Int) + 4) := by decide +kernel
theorem j_Office_isFromJack : mz_t 1 9 = 10 ∧ (0 ≤ ((1 : Nat) : Int) + 9) ∧ mz_t 7 15 = 22 ∧ (0 ≤ ((7 : Nat) : Int) + 15) ∧ mz_t 13 13 = 26 ∧ (0 ≤ ((13 : Nat) : Int) + 13) ∧ mz_t 19 7 = 26 ∧ (0 ≤ ((19 : Nat) : Int) + 7) ∧ mz_t 23 4 = 27 ∧ (0 ≤ ((23 : Nat) : Int) + 4) := by decide +kernel
theorem j_Office_isToJack_4 : mz_t 4 39 = 43 ∧ (0 ≤ ((4 : Nat) : Int) + 39) := by decide +kernel
theorem j_Office_isToJack_10 : mz_t 10 9 = 19 ∧ (0 ≤ ((10 : Nat) : Int) + 9) := by decide +kernel
theorem j_Office_isToJack_16 : mz_t 16 27 = 43 ∧ (0 ≤ ((16 : Nat) : Int) + 27) := by decide +kernel
theorem j_Office_isToJack_22 : mz_t 22 9 = 31 ∧ (0 ≤ ((22 : Nat) : Int) + 9) := by decide +kernel
theorem j_Office_isToJack_28 : mz_t 28 15 = 43 ∧ (0 ≤ ((28 : Nat) : Int) + 15) := by decide +kernel
theorem j_Office_isToJack_34 : mz_t 34 13 = 47 ∧ (0 ≤ ((34 : Nat) : Int) + 13) := by decide +kernel
theorem j_Office_isToJack_40 : mz_t 40 7 = 47 ∧ (0 ≤ ((40 : Nat) : Int) + 7) := by decide +kernel
theorem j_Office_isToJack_44 : mz_t 44 4 = 48 ∧ (0 ≤ ((44 : Nat) : Int) + 4) := by decide +kernel
theorem j_Office_isToJack : mz_t 4 39 = 43 ∧ (0 ≤ ((4 : Nat) : Int) + 39) ∧ mz_t 10 9 = 19 ∧ (0 ≤ ((10 : Nat) : Int) + 9) ∧ mz_t 16 27 = 43 ∧ (0 ≤ ((16 : Nat) : Int) + 27) ∧ mz_t 22 9 = 31 ∧ (0 ≤ ((22 : Nat) : Int) + 9) ∧ mz_t 28 15 = 43 ∧ (0 ≤ ((28 : Nat) : Int) + 15) ∧ mz_t 34 13 = 47 ∧ (0 ≤ ((34 : Nat) : Int) + 13) ∧ mz_t 40 7 = 47 ∧ (0 ≤ ((40 : Nat) : Int) + 7) ∧ mz_t 44 4 = 48 ∧ (0 ≤ ((44 : Nat) : Int) + 4) := by decide +kernel
theorem j_Office_isColumn_1 : mz_t 1 13 = 14 ∧ (0 ≤ ((1 : Nat) : Int) + 13) := by decide +kernel
theorem j_Office_isColumn_7 : mz_t 7 7 = 14 ∧ (0 ≤ ((7 : Nat) : Int) + 7) := by decide +kernel
theorem j_Office_isColumn_11 : mz_t 11 4 = 15 ∧ (0 ≤ ((11 : Nat) : Int) + 4) := by decide +kernel
theorem j_Office_isColumn : mz_t 1 13 = 14 ∧ (0 ≤ ((1 : Nat) : Int) + 13) ∧ mz_t 7 7 = 14 ∧ (0 ≤ ((7 : Nat) : Int) + 7) ∧ mz_t 11 4 = 15 ∧ (0 ≤ ((11 : Nat) : Int) + 4) := by decide +kernel
theorem j_Board_addWire_6 : mz_t 6 12 = 18 ∧ (0 ≤ ((6 : Nat) : Int) + 12) := by decide +kernel
theorem j_Board_addWire_15 : mz_t 15 5 = 20 ∧ (0 ≤ ((15 : Nat) : Int) + 5) := by decide +kernel
theorem j_Board_addWire : mz_t 6 12 = 18 ∧ (0 ≤ ((6 : Nat) : Int) + 12) ∧ mz_t 15 5 = 20 ∧ (0 ≤ ((15 : Nat) : Int) + 5) := by decide +kernel
theorem j_Board_hasWire_7 : mz_t 7 31 = 38 ∧ (0 ≤ ((7 : Nat) : Int) + 31) := by decide +kernel
theorem j_Board_hasWire_17 : mz_t 17 15 = 32 ∧ (0 ≤ ((17 : Nat) : Int) + 15) := by decide +kernel
theorem j_Board_hasWire_27 : mz_t 27 5 = 32 ∧ (0 ≤ ((27 : Nat) : Int) + 5) := by decide +kernel
theorem j_Board_hasWire_35 : mz_t 35 (-33) = 2 ∧ (0 ≤ ((35 : Nat) : Int) + (-33)) := by decide +kernel
theorem j_Board_hasWire : mz_t 7 31 = 38 ∧ (0 ≤ ((7 : Nat) : Int) + 31) ∧ mz_t 17 15 = 32 ∧ (0 ≤ ((17 : Nat) : Int) + 15) ∧ mz_t 27 5 = 32 ∧ (0 ≤ ((27 : Nat) : Int) + 5) ∧ mz_t 35 (-33) = 2 ∧ (0 ≤ ((35 : Nat) : Int) + (-33)) := by decide +kernel
theorem j_Office_strip_4 : mz_t 4 5 = 9 ∧ (0 ≤ ((4 : Nat) : Int) + 5) := by decide +kernel
theorem j_Office_strip : mz_t 4 5 = 9 ∧ (0 ≤ ((4 : Nat) : Int) + 5) := by decide +kernel
theorem j_Office_level_4 : mz_t 4 19 = 23 ∧ (0 ≤ ((4 : Nat) : Int) + 19) := by decide +kernel
theorem j_Office_level_11 : mz_t 11 12 = 23 ∧ (0 ≤ ((11 : Nat) : Int) + 12) := by decide +kernel
theorem j_Office_level_15 : mz_t 15 8 = 23 ∧ (0 ≤ ((15 : Nat) : Int) + 8) := by decide +kernel
theorem j_Office_level_20 : mz_t 20 5 = 25 ∧ (0 ≤ ((20 : Nat) : Int) + 5) := by decide +kernel
theorem j_Office_level : mz_t 4 19 = 23 ∧ (0 ≤ ((4 : Nat) : Int) + 19) ∧ mz_t 11 12 = 23 ∧ (0 ≤ ((11 : Nat) : Int) + 12) ∧ mz_t 15 8 = 23 ∧ (0 ≤ ((15 : Nat) : Int) + 8) ∧ mz_t 20 5 = 25 ∧ (0 ≤ ((20 : Nat) : Int) + 5) := by decide +kernel
theorem j_Office_isCounter_1 : mz_t 1 12 = 13 ∧ (0 ≤ ((1 : Nat) : Int) + 12) := by decide +kernel
theorem j_Office_isCounter_6 : mz_t 6 7 = 13 ∧ (0 ≤ ((6 : Nat) : Int) + 7) := by decide +kernel
theorem j_Office_isCounter_10 : mz_t 10 4 = 14 ∧ (0 ≤ ((10 : Nat) : Int) + 4) := by decide +kernel
theorem j_Office_isCounter : mz_t 1 12 = 13 ∧ (0 ≤ ((1 : Nat) : Int) + 12) ∧ mz_t 6 7 = 13 ∧ (0 ≤ ((6 : Nat) : Int) + 7) ∧ mz_t 10 4 = 14 ∧ (0 ≤ ((10 : Nat) : Int) + 4) := by decide +kernel
theorem j_Office_cut_5 : mz_t 5 16 = 21 ∧ (0 ≤ ((5 : Nat) : Int) + 16) := by decide +kernel
theorem j_Office_cut_18 : mz_t 18 5 = 23 ∧ (0 ≤ ((18 : Nat) : Int) + 5) := by decide +kernel
theorem j_Office_cut : mz_t 5 16 = 21 ∧ (0 ≤ ((5 : Nat) : Int) + 16) ∧ mz_t 18 5 = 23 ∧ (0 ≤ ((18 : Nat) : Int) + 5) := by decide +kernel
theorem j_Office_areTwoDecks_4 : mz_t 4 19 = 23 ∧ (0 ≤ ((4 : Nat) : Int) + 19) := by decide +kernel
theorem j_Office_areTwoDecks_11 : mz_t 11 12 = 23 ∧ (0 ≤ ((11 : Nat) : Int) + 12) := by decide +kernel
theorem j_Office_areTwoDecks_16 : mz_t 16 7 = 23 ∧ (0 ≤ ((16 : Nat) : Int) + 7) := by decide +kernel
theorem j_Office_areTwoDecks_20 : mz_t 20 4 = 24 ∧ (0 ≤ ((20 : Nat) : Int) + 4) := by decide +kernel
theorem j_Office_areTwoDecks : mz_t 4 19 = 23 ∧ (0 ≤ ((4 : Nat) : Int) + 19) ∧ mz_t 11 12 = 23 ∧ (0 ≤ ((11 : Nat) : Int) + 12) ∧ mz_t 16 7 = 23 ∧ (0 ≤ ((16 : Nat) : Int) + 7) ∧ mz_t 20 4 = 24 ∧ (0 ≤ ((20 : Nat) : Int) + 4) := by decide +kernel
theorem j_Deck_moveFirst_12 : mz_t 12 20 = 32 ∧ (0 ≤ ((12 : Nat) : Int) + 20) := by decide +kernel
theorem j_Deck_moveFirst_29 : mz_t 29 (-20) = 9 ∧ (0 ≤ ((29 : Nat) : Int) + (-20)) := by decide +kernel
theorem j_Deck_moveFirst_41 : mz_t 41 25 = 66 ∧ (0 ≤ ((41 : Nat) : Int) + 25) := by decide +kernel
theorem j_Deck_moveFirst_63 : mz_t 63 (-28) = 35 ∧ (0 ≤ ((63 : Nat) : Int) + (-28)) := by decide +kernel
theorem j_Deck_moveFirst : mz_t 12 20 = 32 ∧ (0 ≤ ((12 : Nat) : Int) + 20) ∧ mz_t 29 (-20) = 9 ∧ (0 ≤ ((29 : Nat) : Int) + (-20)) ∧ mz_t 41 25 = 66 ∧ (0 ≤ ((41 : Nat) : Int) + 25) ∧ mz_t 63 (-28) = 35 ∧ (0 ≤ ((63 : Nat) : Int) + (-28)) := by decide +kernel
theorem j_Office_count_4 : mz_t 4 13 = 17 ∧ (0 ≤ ((4 : Nat) : Int) + 13) := by decide +kernel
theorem j_Office_count_24 : mz_t 24 16 = 40 ∧ (0 ≤ ((24 : Nat) : Int) + 16) := by decide +kernel
theorem j_Office_count : mz_t 4 13 = 17 ∧ (0 ≤ ((4 : Nat) : Int) + 13) ∧ mz_t 24 16 = 40 ∧ (0 ≤ ((24 : Nat) : Int) + 16) := by decide +kernel
theorem j_Office_pass_4 : mz_t 4 10 = 14 ∧ (0 ≤ ((4 : Nat) : Int) + 10) := by decide +kernel
theorem j_Office_pass_11 : mz_t 11 13 = 24 ∧ (0 ≤ ((11 : Nat) : Int) + 13) := by decide +kernel
theorem j_Office_pass : mz_t 4 10 = 14 ∧ (0 ≤ ((4 : Nat) : Int) + 10) ∧ mz_t 11 13 = 24 ∧ (0 ≤ ((11 : Nat) : Int) + 13) := by decide +kernel
theorem j_Sorter_passOnce_32 : mz_t 32 51 = 83 ∧ (0 ≤ ((32 : Nat) : Int) + 51) := by decide +kernel
theorem j_Sorter_passOnce_80 : mz_t 80 (-54) = 26 ∧ (0 ≤ ((80 : Nat) : Int) + (-54)) := by decide +kernel
theorem j_Sorter_passOnce_92 : mz_t 92 23 = 115 ∧ (0 ≤ ((92 : Nat) : Int) + 23) := by decide +kernel
theorem j_Sorter_passOnce_112 : mz_t 112 (-26) = 86 ∧ (0 ≤ ((112 : Nat) : Int) + (-26)) := by decide +kernel
theorem j_Sorter_passOnce : mz_t 32 51 = 83 ∧ (0 ≤ ((32 : Nat) : Int) + 51) ∧ mz_t 80 (-54) = 26 ∧ (0 ≤ ((80 : Nat) : Int) + (-54)) ∧ mz_t 92 23 = 115 ∧ (0 ≤ ((92 : Nat) : Int) + 23) ∧ mz_t 112 (-26) = 86 ∧ (0 ≤ ((112 : Nat) : Int) + (-26)) := by decide +kernel
theorem j_Sorter_fillPockets_17 : mz_t 17 29 = 46 ∧ (0 ≤ ((17 : Nat) : Int) + 29) := by decide +kernel
theorem j_Sorter_fillPockets_43 : mz_t 43 (-32) = 11 ∧ (0 ≤ ((43 : Nat) : Int) + (-32)) := by decide +kernel
theorem j_Sorter_fillPockets : mz_t 17 29 = 46 ∧ (0 ≤ ((17 : Nat) : Int) + 29) ∧ mz_t 43 (-32) = 11 ∧ (0 ≤ ((43 : Nat) : Int) + (-32)) := by decide +kernel
theorem j_Sorter_pocketOf_8 : mz_t 8 10 = 18 ∧ (0 ≤ ((8 : Nat) : Int) + 10) := by decide +kernel
theorem j_Sorter_pocketOf_15 : mz_t 15 7 = 22 ∧ (0 ≤ ((15 : Nat) : Int) + 7) := by decide +kernel
theorem j_Sorter_pocketOf : mz_t 8 10 = 18 ∧ (0 ≤ ((8 : Nat) : Int) + 10) ∧ mz_t 15 7 = 22 ∧ (0 ≤ ((15 : Nat) : Int) + 7) := by decide +kernel
theorem j_Office_zoneOf_3 : mz_t 3 5 = 8 ∧ (0 ≤ ((3 : Nat) : Int) + 5) := by decide +kernel
theorem j_Office_zoneOf_11 : mz_t 11 5 = 16 ∧ (0 ≤ ((11 : Nat) : Int) + 5) := by decide +kernel
theorem j_Office_zoneOf_19 : mz_t 19 7 = 26 ∧ (0 ≤ ((19 : Nat) : Int) + 7) := by decide +kernel
theorem j_Office_zoneOf_23 : mz_t 23 4 = 27 ∧ (0 ≤ ((23 : Nat) : Int) + 4) := by decide +kernel
theorem j_Office_zoneOf : mz_t 3 5 = 8 ∧ (0 ≤ ((3 : Nat) : Int) + 5) ∧ mz_t 11 5 = 16 ∧ (0 ≤ ((11 : Nat) : Int) + 5) ∧ mz_t 19 7 = 26 ∧ (0 ≤ ((19 : Nat) : Int) + 7) ∧ mz_t 23 4 = 27 ∧ (0 ≤ ((23 : Nat) : Int) + 4) := by decide +kernel
theorem j_Office_digitOf_3 : mz_t 3 10 = 13 ∧ (0 ≤ ((3 : Nat) : Int) + 10) := by decide +kernel
theorem j_Office_digitOf_16 : mz_t 16 10 = 26 ∧ (0 ≤ ((16 : Nat) : Int) + 10) := by decide +kernel
theorem j_Office_digitOf_29 : mz_t 29 10 = 39 ∧ (0 ≤ ((29 : Nat) : Int) + 10) := by decide +kernel
theorem j_Office_digitOf_42 : mz_t 42 7 = 49 ∧ (0 ≤ ((42 : Nat) : Int) + 7) := by decide +kernel
theorem j_Office_digitOf_46 : mz_t 46 7 = 53 ∧ (0 ≤ ((46 : Nat) : Int) + 7) := by decide +kernel
theorem j_Office_digitOf : mz_t 3 10 = 13 ∧ (0 ≤ ((3 : Nat) : Int) + 10) ∧ mz_t 16 10 = 26 ∧ (0 ≤ ((16 : Nat) : Int) + 10) ∧ mz_t 29 10 = 39 ∧ (0 ≤ ((29 : Nat) : Int) + 10) ∧ mz_t 42 7 = 49 ∧ (0 ≤ ((42 : Nat) : Int) + 7) ∧ mz_t 46 7 = 53 ∧ (0 ≤ ((46 : Nat) : Int) + 7) := by decide +kernel
theorem j_Sorter_stackPockets_9 : mz_t 9 37 = 46 ∧ (0 ≤ ((9 : Nat) : Int) + 37) := by decide +kernel
theorem j_Sorter_stackPockets_22 : mz_t 22 6 = 28 ∧ (0 ≤ ((22 : Nat) : Int) + 6) := by decide +kernel
theorem j_Sorter_stackPockets_43 : mz_t 43 (-37) = 6 ∧ (0 ≤ ((43 : Nat) : Int) + (-37)) := by decide +kernel
theorem j_Sorter_stackPockets : mz_t 9 37 = 46 ∧ (0 ≤ ((9 : Nat) : Int) + 37) ∧ mz_t 22 6 = 28 ∧ (0 ≤ ((22 : Nat) : Int) + 6) ∧ mz_t 43 (-37) = 6 ∧ (0 ≤ ((43 : Nat) : Int) + (-37)) := by decide +kernel
theorem j_Office_sort_4 : mz_t 4 11 = 15 ∧ (0 ≤ ((4 : Nat) : Int) + 11) := by decide +kernel
theorem j_Office_sort_12 : mz_t 12 13 = 25 ∧ (0 ≤ ((12 : Nat) : Int) + 13) := by decide +kernel
theorem j_Office_sort : mz_t 4 11 = 15 ∧ (0 ≤ ((4 : Nat) : Int) + 11) ∧ mz_t 12 13 = 25 ∧ (0 ≤ ((12 : Nat) : Int) + 13) := by decide +kernel
theorem j_Office_isField_1 : mz_t 1 18 = 19 ∧ (0 ≤ ((1 : Nat) : Int) + 18) := by decide +kernel
theorem j_Office_isField_6 : mz_t 6 13 = 19 ∧ (0 ≤ ((6 : Nat) : Int) + 13) := by decide +kernel
theorem j_Office_isField_12 : mz_t 12 7 = 19 ∧ (0 ≤ ((12 : Nat) : Int) + 7) := by decide +kernel
theorem j_Office_isField_16 : mz_t 16 4 = 20 ∧ (0 ≤ ((16 : Nat) : Int) + 4) := by decide +kernel
theorem j_Office_isField : mz_t 1 18 = 19 ∧ (0 ≤ ((1 : Nat) : Int) + 18) ∧ mz_t 6 13 = 19 ∧ (0 ≤ ((6 : Nat) : Int) + 13) ∧ mz_t 12 7 = 19 ∧ (0 ≤ ((12 : Nat) : Int) + 7) ∧ mz_t 16 4 = 20 ∧ (0 ≤ ((16 : Nat) : Int) + 4) := by decide +kernel
theorem j_Sorter_sortOn_6 : mz_t 6 5 = 11 ∧ (0 ≤ ((6 : Nat) : Int) + 5) := by decide +kernel
theorem j_Sorter_sortOn_23 : mz_t 23 36 = 59 ∧ (0 ≤ ((23 : Nat) : Int) + 36) := by decide +kernel
theorem j_Sorter_sortOn_41 : mz_t 41 12 = 53 ∧ (0 ≤ ((41 : Nat) : Int) + 12) := by decide +kernel
theorem j_Sorter_sortOn_56 : mz_t 56 (-36) = 20 ∧ (0 ≤ ((56 : Nat) : Int) + (-36)) := by decide +kernel
theorem j_Sorter_sortOn : mz_t 6 5 = 11 ∧ (0 ≤ ((6 : Nat) : Int) + 5) ∧ mz_t 23 36 = 59 ∧ (0 ≤ ((23 : Nat) : Int) + 36) ∧ mz_t 41 12 = 53 ∧ (0 ≤ ((41 : Nat) : Int) + 12) ∧ mz_t 56 (-36) = 20 ∧ (0 ≤ ((56 : Nat) : Int) + (-36)) := by decide +kernel
theorem j_Deck_isSorted_7 : mz_t 7 33 = 40 ∧ (0 ≤ ((7 : Nat) : Int) + 33) := by decide +kernel
theorem j_Deck_isSorted_29 : mz_t 29 5 = 34 ∧ (0 ≤ ((29 : Nat) : Int) + 5) := by decide +kernel
theorem j_Deck_isSorted_37 : mz_t 37 (-35) = 2 ∧ (0 ≤ ((37 : Nat) : Int) + (-35)) := by decide +kernel
theorem j_Deck_isSorted : mz_t 7 33 = 40 ∧ (0 ≤ ((7 : Nat) : Int) + 33) ∧ mz_t 29 5 = 34 ∧ (0 ≤ ((29 : Nat) : Int) + 5) ∧ mz_t 37 (-35) = 2 ∧ (0 ≤ ((37 : Nat) : Int) + (-35)) := by decide +kernel
theorem j_Card_compareOn_6 : mz_t 6 50 = 56 ∧ (0 ≤ ((6 : Nat) : Int) + 50) := by decide +kernel
theorem j_Card_compareOn_23 : mz_t 23 27 = 50 ∧ (0 ≤ ((23 : Nat) : Int) + 27) := by decide +kernel
theorem j_Card_compareOn_53 : mz_t 53 (-50) = 3 ∧ (0 ≤ ((53 : Nat) : Int) + (-50)) := by decide +kernel
theorem j_Card_compareOn : mz_t 6 50 = 56 ∧ (0 ≤ ((6 : Nat) : Int) + 50) ∧ mz_t 23 27 = 50 ∧ (0 ≤ ((23 : Nat) : Int) + 27) ∧ mz_t 53 (-50) = 3 ∧ (0 ≤ ((53 : Nat) : Int) + (-50)) := by decide +kernel
theorem j_Integer_compare_2 : mz_t 2 7 = 9 ∧ (0 ≤ ((2 : Nat) : Int) + 7) := by decide +kernel
theorem j_Integer_compare_6 : mz_t 6 13 = 19 ∧ (0 ≤ ((6 : Nat) : Int) + 13) := by decide +kernel
theorem j_Integer_compare_11 : mz_t 11 7 = 18 ∧ (0 ≤ ((11 : Nat) : Int) + 7) := by decide +kernel
theorem j_Integer_compare_15 : mz_t 15 4 = 19 ∧ (0 ≤ ((15 : Nat) : Int) + 4) := by decide +kernel
theorem j_Integer_compare : mz_t 2 7 = 9 ∧ (0 ≤ ((2 : Nat) : Int) + 7) ∧ mz_t 6 13 = 19 ∧ (0 ≤ ((6 : Nat) : Int) + 13) ∧ mz_t 11 7 = 18 ∧ (0 ≤ ((11 : Nat) : Int) + 7) ∧ mz_t 15 4 = 19 ∧ (0 ≤ ((15 : Nat) : Int) + 4) := by decide +kernel
theorem j_Deck_hasZoneIn_7 : mz_t 7 28 = 35 ∧ (0 ≤ ((7 : Nat) : Int) + 28) := by decide +kernel
theorem j_Deck_hasZoneIn_24 : mz_t 24 5 = 29 ∧ (0 ≤ ((24 : Nat) : Int) + 5) := by decide +kernel
theorem j_Deck_hasZoneIn_32 : mz_t 32 (-30) = 2 ∧ (0 ≤ ((32 : Nat) : Int) + (-30)) := by decide +kernel
theorem j_Deck_hasZoneIn : mz_t 7 28 = 35 ∧ (0 ≤ ((7 : Nat) : Int) + 28) ∧ mz_t 24 5 = 29 ∧ (0 ≤ ((24 : Nat) : Int) + 5) ∧ mz_t 32 (-30) = 2 ∧ (0 ≤ ((32 : Nat) : Int) + (-30)) := by decide +kernel
theorem j_Office_merge_5 : mz_t 5 12 = 17 ∧ (0 ≤ ((5 : Nat) : Int) + 12) := by decide +kernel
theorem j_Office_merge_14 : mz_t 14 13 = 27 ∧ (0 ≤ ((14 : Nat) : Int) + 13) := by decide +kernel
theorem j_Office_merge_39 : mz_t 39 18 = 57 ∧ (0 ≤ ((39 : Nat) : Int) + 18) := by decide +kernel
theorem j_Office_merge_54 : mz_t 54 13 = 67 ∧ (0 ≤ ((54 : Nat) : Int) + 13) := by decide +kernel
theorem j_Office_merge : mz_t 5 12 = 17 ∧ (0 ≤ ((5 : Nat) : Int) + 12) ∧ mz_t 14 13 = 27 ∧ (0 ≤ ((14 : Nat) : Int) + 13) ∧ mz_t 39 18 = 57 ∧ (0 ≤ ((39 : Nat) : Int) + 18) ∧ mz_t 54 13 = 67 ∧ (0 ≤ ((54 : Nat) : Int) + 13) := by decide +kernel
theorem j_Collator_mergeOn_37 : mz_t 37 59 = 96 ∧ (0 ≤ ((37 : Nat) : Int) + 59) := by decide +kernel
theorem j_Collator_mergeOn_52 : mz_t 52 22 = 74 ∧ (0 ≤ ((52 : Nat) : Int) + 22) := by decide +kernel
theorem j_Collator_mergeOn_71 : mz_t 71 19 = 90 ∧ (0 ≤ ((71 : Nat) : Int) + 19) := by decide +kernel
theorem j_Collator_mergeOn_93 : mz_t 93 (-60) = 33 ∧ (0 ≤ ((93 : Nat) : Int) + (-60)) := by decide +kernel
theorem j_Collator_mergeOn : mz_t 37 59 = 96 ∧ (0 ≤ ((37 : Nat) : Int) + 59) ∧ mz_t 52 22 = 74 ∧ (0 ≤ ((52 : Nat) : Int) + 22) ∧ mz_t 71 19 = 90 ∧ (0 ≤ ((71 : Nat) : Int) + 19) ∧ mz_t 93 (-60) = 33 ∧ (0 ≤ ((93 : Nat) : Int) + (-60)) := by decide +kernel
theorem j_Collator_orderOf_5 : mz_t 5 5 = 10 ∧ (0 ≤ ((5 : Nat) : Int) + 5) := by decide +kernel
theorem j_Collator_orderOf_15 : mz_t 15 5 = 20 ∧ (0 ≤ ((15 : Nat) : Int) + 5) := by decide +kernel
theorem j_Collator_orderOf : mz_t 5 5 = 10 ∧ (0 ≤ ((5 : Nat) : Int) + 5) ∧ mz_t 15 5 = 20 ∧ (0 ≤ ((15 : Nat) : Int) + 5) := by decide +kernel
theorem j_Deck_takeAllOf_7 : mz_t 7 21 = 28 ∧ (0 ≤ ((7 : Nat) : Int) + 21) := by decide +kernel
theorem j_Deck_takeAllOf_25 : mz_t 25 (-23) = 2 ∧ (0 ≤ ((25 : Nat) : Int) + (-23)) := by decide +kernel
theorem j_Deck_takeAllOf : mz_t 7 21 = 28 ∧ (0 ≤ ((7 : Nat) : Int) + 21) ∧ mz_t 25 (-23) = 2 ∧ (0 ≤ ((25 : Nat) : Int) + (-23)) := by decide +kernel
theorem j_Office_match_5 : mz_t 5 29 = 34 ∧ (0 ≤ ((5 : Nat) : Int) + 29) := by decide +kernel
theorem j_Office_match_13 : mz_t 13 21 = 34 ∧ (0 ≤ ((13 : Nat) : Int) + 21) := by decide +kernel
theorem j_Office_match_21 : mz_t 21 13 = 34 ∧ (0 ≤ ((21 : Nat) : Int) + 13) := by decide +kernel
theorem j_Office_match_31 : mz_t 31 13 = 44 ∧ (0 ≤ ((31 : Nat) : Int) + 13) := by decide +kernel
theorem j_Office_match_57 : mz_t 57 19 = 76 ∧ (0 ≤ ((57 : Nat) : Int) + 19) := by decide +kernel
theorem j_Office_match_73 : mz_t 73 13 = 86 ∧ (0 ≤ ((73 : Nat) : Int) + 13) := by decide +kernel
theorem j_Office_match : mz_t 5 29 = 34 ∧ (0 ≤ ((5 : Nat) : Int) + 29) ∧ mz_t 13 21 = 34 ∧ (0 ≤ ((13 : Nat) : Int) + 21) ∧ mz_t 21 13 = 34 ∧ (0 ≤ ((21 : Nat) : Int) + 13) ∧ mz_t 31 13 = 44 ∧ (0 ≤ ((31 : Nat) : Int) + 13) ∧ mz_t 57 19 = 76 ∧ (0 ≤ ((57 : Nat) : Int) + 19) ∧ mz_t 73 13 = 86 ∧ (0 ≤ ((73 : Nat) : Int) + 13) := by decide +kernel
theorem j_Collator_matchOn_33 : mz_t 33 138 = 171 ∧ (0 ≤ ((33 : Nat) : Int) + 138) := by decide +kernel
theorem j_Collator_matchOn_53 : mz_t 53 53 = 106 ∧ (0 ≤ ((53 : Nat) : Int) + 53) := by decide +kernel
theorem j_Collator_matchOn_58 : mz_t 58 12 = 70 ∧ (0 ≤ ((58 : Nat) : Int) + 12) := by decide +kernel
theorem j_Collator_matchOn_67 : mz_t 67 5 = 72 ∧ (0 ≤ ((67 : Nat) : Int) + 5) := by decide +kernel
theorem j_Collator_matchOn_76 : mz_t 76 7 = 83 ∧ (0 ≤ ((76 : Nat) : Int) + 7) := by decide +kernel
theorem j_Collator_matchOn_80 : mz_t 80 7 = 87 ∧ (0 ≤ ((80 : Nat) : Int) + 7) := by decide +kernel
theorem j_Collator_matchOn_103 : mz_t 103 62 = 165 ∧ (0 ≤ ((103 : Nat) : Int) + 62) := by decide +kernel
theorem j_Collator_matchOn_108 : mz_t 108 25 = 133 ∧ (0 ≤ ((108 : Nat) : Int) + 25) := by decide +kernel
theorem j_Collator_matchOn_126 : mz_t 126 7 = 133 ∧ (0 ≤ ((126 : Nat) : Int) + 7) := by decide +kernel
theorem j_Collator_matchOn_130 : mz_t 130 4 = 134 ∧ (0 ≤ ((130 : Nat) : Int) + 4) := by decide +kernel
theorem j_Collator_matchOn_138 : mz_t 138 7 = 145 ∧ (0 ≤ ((138 : Nat) : Int) + 7) := by decide +kernel
theorem j_Collator_matchOn_142 : mz_t 142 7 = 149 ∧ (0 ≤ ((142 : Nat) : Int) + 7) := by decide +kernel
theorem j_Collator_matchOn_168 : mz_t 168 (-139) = 29 ∧ (0 ≤ ((168 : Nat) : Int) + (-139)) := by decide +kernel
theorem j_Collator_matchOn : mz_t 33 138 = 171 ∧ (0 ≤ ((33 : Nat) : Int) + 138) ∧ mz_t 53 53 = 106 ∧ (0 ≤ ((53 : Nat) : Int) + 53) ∧ mz_t 58 12 = 70 ∧ (0 ≤ ((58 : Nat) : Int) + 12) ∧ mz_t 67 5 = 72 ∧ (0 ≤ ((67 : Nat) : Int) + 5) ∧ mz_t 76 7 = 83 ∧ (0 ≤ ((76 : Nat) : Int) + 7) ∧ mz_t 80 7 = 87 ∧ (0 ≤ ((80 : Nat) : Int) + 7) ∧ mz_t 103 62 = 165 ∧ (0 ≤ ((103 : Nat) : Int) + 62) ∧ mz_t 108 25 = 133 ∧ (0 ≤ ((108 : Nat) : Int) + 25) ∧ mz_t 126 7 = 133 ∧ (0 ≤ ((126 : Nat) : Int) + 7) ∧ mz_t 130 4 = 134 ∧ (0 ≤ ((130 : Nat) : Int) + 4) ∧ mz_t 138 7 = 145 ∧ (0 ≤ ((138 : Nat) : Int) + 7) ∧ mz_t 142 7 = 149 ∧ (0 ≤ ((142 : Nat) : Int) + 7) ∧ mz_t 168 (-139) = 29 ∧ (0 ≤ ((168 : Nat) : Int) + (-139)) := by decide +kernel
theorem j_Office_reproduce_4 : mz_t 4 11 = 15 ∧ (0 ≤ ((4 : Nat) : Int) + 11) := by decide +kernel
theorem j_Office_reproduce_12 : mz_t 12 13 = 25 ∧ (0 ≤ ((12 : Nat) : Int) + 13) := by decide +kernel
theorem j_Office_reproduce : mz_t 4 11 = 15 ∧ (0 ≤ ((4 : Nat) : Int) + 11) ∧ mz_t 12 13 = 25 ∧ (0 ≤ ((12 : Nat) : Int) + 13) := by decide +kernel
theorem j_Reproducer_copyDeck_9 : mz_t 9 66 = 75 ∧ (0 ≤ ((9 : Nat) : Int) + 66) := by decide +kernel
theorem j_Reproducer_copyDeck_33 : mz_t 33 12 = 45 ∧ (0 ≤ ((33 : Nat) : Int) + 12) := by decide +kernel
theorem j_Reproducer_copyDeck_49 : mz_t 49 12 = 61 ∧ (0 ≤ ((49 : Nat) : Int) + 12) := by decide +kernel
theorem j_Reproducer_copyDeck_72 : mz_t 72 (-69) = 3 ∧ (0 ≤ ((72 : Nat) : Int) + (-69)) := by decide +kernel
theorem j_Reproducer_copyDeck : mz_t 9 66 = 75 ∧ (0 ≤ ((9 : Nat) : Int) + 66) ∧ mz_t 33 12 = 45 ∧ (0 ≤ ((33 : Nat) : Int) + 12) ∧ mz_t 49 12 = 61 ∧ (0 ≤ ((49 : Nat) : Int) + 12) ∧ mz_t 72 (-69) = 3 ∧ (0 ≤ ((72 : Nat) : Int) + (-69)) := by decide +kernel
theorem j_Board_bringFromCard_11 : mz_t 11 46 = 57 ∧ (0 ≤ ((11 : Nat) : Int) + 46) := by decide +kernel
theorem j_Board_bringFromCard_19 : mz_t 19 32 = 51 ∧ (0 ≤ ((19 : Nat) : Int) + 32) := by decide +kernel
theorem j_Board_bringFromCard_32 : mz_t 32 19 = 51 ∧ (0 ≤ ((32 : Nat) : Int) + 19) := by decide +kernel
theorem j_Board_bringFromCard_54 : mz_t 54 (-48) = 6 ∧ (0 ≤ ((54 : Nat) : Int) + (-48)) := by decide +kernel
theorem j_Board_bringFromCard : mz_t 11 46 = 57 ∧ (0 ≤ ((11 : Nat) : Int) + 46) ∧ mz_t 19 32 = 51 ∧ (0 ≤ ((19 : Nat) : Int) + 32) ∧ mz_t 32 19 = 51 ∧ (0 ≤ ((32 : Nat) : Int) + 19) ∧ mz_t 54 (-48) = 6 ∧ (0 ≤ ((54 : Nat) : Int) + (-48)) := by decide +kernel
theorem j_Board_isFromExit_8 : mz_t 8 7 = 15 ∧ (0 ≤ ((8 : Nat) : Int) + 7) := by decide +kernel
theorem j_Board_isFromExit_12 : mz_t 12 4 = 16 ∧ (0 ≤ ((12 : Nat) : Int) + 4) := by decide +kernel
theorem j_Board_isFromExit : mz_t 8 7 = 15 ∧ (0 ≤ ((8 : Nat) : Int) + 7) ∧ mz_t 12 4 = 16 ∧ (0 ≤ ((12 : Nat) : Int) + 4) := by decide +kernel
theorem j_Jacks_hasJack_5 : mz_t 5 21 = 26 ∧ (0 ≤ ((5 : Nat) : Int) + 21) := by decide +kernel
theorem j_Jacks_hasJack_19 : mz_t 19 7 = 26 ∧ (0 ≤ ((19 : Nat) : Int) + 7) := by decide +kernel
theorem j_Jacks_hasJack_23 : mz_t 23 4 = 27 ∧ (0 ≤ ((23 : Nat) : Int) + 4) := by decide +kernel
theorem j_Jacks_hasJack : mz_t 5 21 = 26 ∧ (0 ≤ ((5 : Nat) : Int) + 21) ∧ mz_t 19 7 = 26 ∧ (0 ≤ ((19 : Nat) : Int) + 7) ∧ mz_t 23 4 = 27 ∧ (0 ≤ ((23 : Nat) : Int) + 4) := by decide +kernel
theorem j_Board_signFrom_8 : mz_t 8 17 = 25 ∧ (0 ≤ ((8 : Nat) : Int) + 17) := by decide +kernel
theorem j_Board_signFrom_22 : mz_t 22 15 = 37 ∧ (0 ≤ ((22 : Nat) : Int) + 15) := by decide +kernel
theorem j_Board_signFrom : mz_t 8 17 = 25 ∧ (0 ≤ ((8 : Nat) : Int) + 17) ∧ mz_t 22 15 = 37 ∧ (0 ≤ ((22 : Nat) : Int) + 15) := by decide +kernel
theorem j_Jacks_bring_14 : mz_t 14 18 = 32 ∧ (0 ≤ ((14 : Nat) : Int) + 18) := by decide +kernel
theorem j_Jacks_bring_24 : mz_t 24 8 = 32 ∧ (0 ≤ ((24 : Nat) : Int) + 8) := by decide +kernel
theorem j_Jacks_bring : mz_t 14 18 = 32 ∧ (0 ≤ ((14 : Nat) : Int) + 18) ∧ mz_t 24 8 = 32 ∧ (0 ≤ ((24 : Nat) : Int) + 8) := by decide +kernel
theorem j_Reproducer_newCard_13 : mz_t 13 23 = 36 ∧ (0 ≤ ((13 : Nat) : Int) + 23) := by decide +kernel
theorem j_Reproducer_newCard_33 : mz_t 33 (-23) = 10 ∧ (0 ≤ ((33 : Nat) : Int) + (-23)) := by decide +kernel
theorem j_Reproducer_newCard : mz_t 13 23 = 36 ∧ (0 ≤ ((13 : Nat) : Int) + 23) ∧ mz_t 33 (-23) = 10 ∧ (0 ≤ ((33 : Nat) : Int) + (-23)) := by decide +kernel
theorem j_Jacks_signOrBlank_7 : mz_t 7 8 = 15 ∧ (0 ≤ ((7 : Nat) : Int) + 8) := by decide +kernel
theorem j_Jacks_signOrBlank_12 : mz_t 12 9 = 21 ∧ (0 ≤ ((12 : Nat) : Int) + 9) := by decide +kernel
theorem j_Jacks_signOrBlank : mz_t 7 8 = 15 ∧ (0 ≤ ((7 : Nat) : Int) + 8) ∧ mz_t 12 9 = 21 ∧ (0 ≤ ((12 : Nat) : Int) + 9) := by decide +kernel
theorem j_Office_gang_4 : mz_t 4 17 = 21 ∧ (0 ≤ ((4 : Nat) : Int) + 17) := by decide +kernel
theorem j_Office_gang_11 : mz_t 11 10 = 21 ∧ (0 ≤ ((11 : Nat) : Int) + 10) := by decide +kernel
theorem j_Office_gang_18 : mz_t 18 13 = 31 ∧ (0 ≤ ((18 : Nat) : Int) + 13) := by decide +kernel
theorem j_Office_gang : mz_t 4 17 = 21 ∧ (0 ≤ ((4 : Nat) : Int) + 17) ∧ mz_t 11 10 = 21 ∧ (0 ≤ ((11 : Nat) : Int) + 10) ∧ mz_t 18 13 = 31 ∧ (0 ≤ ((18 : Nat) : Int) + 13) := by decide +kernel
theorem j_Reproducer_punchGangs_12 : mz_t 12 98 = 110 ∧ (0 ≤ ((12 : Nat) : Int) + 98) := by decide +kernel
theorem j_Reproducer_punchGangs_34 : mz_t 34 10 = 44 ∧ (0 ≤ ((34 : Nat) : Int) + 10) := by decide +kernel
theorem j_Reproducer_punchGangs_41 : mz_t 41 63 = 104 ∧ (0 ≤ ((41 : Nat) : Int) + 63) := by decide +kernel
theorem j_Reproducer_punchGangs_46 : mz_t 46 58 = 104 ∧ (0 ≤ ((46 : Nat) : Int) + 58) := by decide +kernel
theorem j_Reproducer_punchGangs_67 : mz_t 67 12 = 79 ∧ (0 ≤ ((67 : Nat) : Int) + 12) := by decide +kernel
theorem j_Reproducer_punchGangs_86 : mz_t 86 12 = 98 ∧ (0 ≤ ((86 : Nat) : Int) + 12) := by decide +kernel
theorem j_Reproducer_punchGangs_107 : mz_t 107 (-101) = 6 ∧ (0 ≤ ((107 : Nat) : Int) + (-101)) := by decide +kernel
theorem j_Reproducer_punchGangs : mz_t 12 98 = 110 ∧ (0 ≤ ((12 : Nat) : Int) + 98) ∧ mz_t 34 10 = 44 ∧ (0 ≤ ((34 : Nat) : Int) + 10) ∧ mz_t 41 63 = 104 ∧ (0 ≤ ((41 : Nat) : Int) + 63) ∧ mz_t 46 58 = 104 ∧ (0 ≤ ((46 : Nat) : Int) + 58) ∧ mz_t 67 12 = 79 ∧ (0 ≤ ((67 : Nat) : Int) + 12) ∧ mz_t 86 12 = 98 ∧ (0 ≤ ((86 : Nat) : Int) + 12) ∧ mz_t 107 (-101) = 6 ∧ (0 ≤ ((107 : Nat) : Int) + (-101)) := by decide +kernel
theorem j_Board_canPunch_7 : mz_t 7 49 = 56 ∧ (0 ≤ ((7 : Nat) : Int) + 49) := by decide +kernel
theorem j_Board_canPunch_15 : mz_t 15 35 = 50 ∧ (0 ≤ ((15 : Nat) : Int) + 35) := by decide +kernel
theorem j_Board_canPunch_26 : mz_t 26 24 = 50 ∧ (0 ≤ ((26 : Nat) : Int) + 24) := by decide +kernel
theorem j_Board_canPunch_45 : mz_t 45 5 = 50 ∧ (0 ≤ ((45 : Nat) : Int) + 5) := by decide +kernel
theorem j_Board_canPunch_53 : mz_t 53 (-51) = 2 ∧ (0 ≤ ((53 : Nat) : Int) + (-51)) := by decide +kernel
theorem j_Board_canPunch : mz_t 7 49 = 56 ∧ (0 ≤ ((7 : Nat) : Int) + 49) ∧ mz_t 15 35 = 50 ∧ (0 ≤ ((15 : Nat) : Int) + 35) ∧ mz_t 26 24 = 50 ∧ (0 ≤ ((26 : Nat) : Int) + 24) ∧ mz_t 45 5 = 50 ∧ (0 ≤ ((45 : Nat) : Int) + 5) ∧ mz_t 53 (-51) = 2 ∧ (0 ≤ ((53 : Nat) : Int) + (-51)) := by decide +kernel
theorem j_Card_canTake_8 : mz_t 8 13 = 21 ∧ (0 ≤ ((8 : Nat) : Int) + 13) := by decide +kernel
theorem j_Card_canTake_18 : mz_t 18 7 = 25 ∧ (0 ≤ ((18 : Nat) : Int) + 7) := by decide +kernel
theorem j_Card_canTake_22 : mz_t 22 4 = 26 ∧ (0 ≤ ((22 : Nat) : Int) + 4) := by decide +kernel
theorem j_Card_canTake : mz_t 8 13 = 21 ∧ (0 ≤ ((8 : Nat) : Int) + 13) ∧ mz_t 18 7 = 25 ∧ (0 ≤ ((18 : Nat) : Int) + 7) ∧ mz_t 22 4 = 26 ∧ (0 ≤ ((22 : Nat) : Int) + 4) := by decide +kernel
theorem j_Reproducer_punchInto_5 : mz_t 5 37 = 42 ∧ (0 ≤ ((5 : Nat) : Int) + 37) := by decide +kernel
theorem j_Reproducer_punchInto_18 : mz_t 18 18 = 36 ∧ (0 ≤ ((18 : Nat) : Int) + 18) := by decide +kernel
theorem j_Reproducer_punchInto_39 : mz_t 39 (-37) = 2 ∧ (0 ≤ ((39 : Nat) : Int) + (-37)) := by decide +kernel
theorem j_Reproducer_punchInto : mz_t 5 37 = 42 ∧ (0 ≤ ((5 : Nat) : Int) + 37) ∧ mz_t 18 18 = 36 ∧ (0 ≤ ((18 : Nat) : Int) + 18) ∧ mz_t 39 (-37) = 2 ∧ (0 ≤ ((39 : Nat) : Int) + (-37)) := by decide +kernel
theorem j_Office_multiply_4 : mz_t 4 25 = 29 ∧ (0 ≤ ((4 : Nat) : Int) + 25) := by decide +kernel
theorem j_Office_multiply_11 : mz_t 11 18 = 29 ∧ (0 ≤ ((11 : Nat) : Int) + 18) := by decide +kernel
theorem j_Office_multiply_18 : mz_t 18 11 = 29 ∧ (0 ≤ ((18 : Nat) : Int) + 11) := by decide +kernel
theorem j_Office_multiply_26 : mz_t 26 13 = 39 ∧ (0 ≤ ((26 : Nat) : Int) + 13) := by decide +kernel
theorem j_Office_multiply_45 : mz_t 45 12 = 57 ∧ (0 ≤ ((45 : Nat) : Int) + 12) := by decide +kernel
theorem j_Office_multiply_54 : mz_t 54 13 = 67 ∧ (0 ≤ ((54 : Nat) : Int) + 13) := by decide +kernel
theorem j_Office_multiply : mz_t 4 25 = 29 ∧ (0 ≤ ((4 : Nat) : Int) + 25) ∧ mz_t 11 18 = 29 ∧ (0 ≤ ((11 : Nat) : Int) + 18) ∧ mz_t 18 11 = 29 ∧ (0 ≤ ((18 : Nat) : Int) + 11) ∧ mz_t 26 13 = 39 ∧ (0 ≤ ((26 : Nat) : Int) + 13) ∧ mz_t 45 12 = 57 ∧ (0 ≤ ((45 : Nat) : Int) + 12) ∧ mz_t 54 13 = 67 ∧ (0 ≤ ((54 : Nat) : Int) + 13) := by decide +kernel
theorem j_Office_isFactorField_1 : mz_t 1 22 = 23 ∧ (0 ≤ ((1 : Nat) : Int) + 22) := by decide +kernel
theorem j_Office_isFactorField_7 : mz_t 7 16 = 23 ∧ (0 ≤ ((7 : Nat) : Int) + 16) := by decide +kernel
theorem j_Office_isFactorField_16 : mz_t 16 7 = 23 ∧ (0 ≤ ((16 : Nat) : Int) + 7) := by decide +kernel
theorem j_Office_isFactorField_20 : mz_t 20 4 = 24 ∧ (0 ≤ ((20 : Nat) : Int) + 4) := by decide +kernel
theorem j_Office_isFactorField : mz_t 1 22 = 23 ∧ (0 ≤ ((1 : Nat) : Int) + 22) ∧ mz_t 7 16 = 23 ∧ (0 ≤ ((7 : Nat) : Int) + 16) ∧ mz_t 16 7 = 23 ∧ (0 ≤ ((16 : Nat) : Int) + 7) ∧ mz_t 20 4 = 24 ∧ (0 ≤ ((20 : Nat) : Int) + 4) := by decide +kernel
theorem j_Office_haveCommonColumn_8 : mz_t 8 18 = 26 ∧ (0 ≤ ((8 : Nat) : Int) + 18) := by decide +kernel
theorem j_Office_haveCommonColumn_19 : mz_t 19 7 = 26 ∧ (0 ≤ ((19 : Nat) : Int) + 7) := by decide +kernel
theorem j_Office_haveCommonColumn_23 : mz_t 23 4 = 27 ∧ (0 ≤ ((23 : Nat) : Int) + 4) := by decide +kernel
theorem j_Office_haveCommonColumn : mz_t 8 18 = 26 ∧ (0 ≤ ((8 : Nat) : Int) + 18) ∧ mz_t 19 7 = 26 ∧ (0 ≤ ((19 : Nat) : Int) + 7) ∧ mz_t 23 4 = 27 ∧ (0 ≤ ((23 : Nat) : Int) + 4) := by decide +kernel
theorem j_Multiplier_goThrough_9 : mz_t 9 38 = 47 ∧ (0 ≤ ((9 : Nat) : Int) + 38) := by decide +kernel
theorem j_Multiplier_goThrough_28 : mz_t 28 13 = 41 ∧ (0 ≤ ((28 : Nat) : Int) + 13) := by decide +kernel
theorem j_Multiplier_goThrough_44 : mz_t 44 (-41) = 3 ∧ (0 ≤ ((44 : Nat) : Int) + (-41)) := by decide +kernel
theorem j_Multiplier_goThrough : mz_t 9 38 = 47 ∧ (0 ≤ ((9 : Nat) : Int) + 38) ∧ mz_t 28 13 = 41 ∧ (0 ≤ ((28 : Nat) : Int) + 13) ∧ mz_t 44 (-41) = 3 ∧ (0 ≤ ((44 : Nat) : Int) + (-41)) := by decide +kernel
theorem j_Multiplier_multiplyOn_20 : mz_t 20 12 = 32 ∧ (0 ≤ ((20 : Nat) : Int) + 12) := by decide +kernel
theorem j_Multiplier_multiplyOn_29 : mz_t 29 5 = 34 ∧ (0 ≤ ((29 : Nat) : Int) + 5) := by decide +kernel
theorem j_Multiplier_multiplyOn_61 : mz_t 61 5 = 66 ∧ (0 ≤ ((61 : Nat) : Int) + 5) := by decide +kernel
theorem j_Multiplier_multiplyOn_74 : mz_t 74 5 = 79 ∧ (0 ≤ ((74 : Nat) : Int) + 5) := by decide +kernel
theorem j_Multiplier_multiplyOn : mz_t 20 12 = 32 ∧ (0 ≤ ((20 : Nat) : Int) + 12) ∧ mz_t 29 5 = 34 ∧ (0 ≤ ((29 : Nat) : Int) + 5) ∧ mz_t 61 5 = 66 ∧ (0 ≤ ((61 : Nat) : Int) + 5) ∧ mz_t 74 5 = 79 ∧ (0 ≤ ((74 : Nat) : Int) + 5) := by decide +kernel
theorem j_Multiplier_numberIn_14 : mz_t 14 47 = 61 ∧ (0 ≤ ((14 : Nat) : Int) + 47) := by decide +kernel
theorem j_Multiplier_numberIn_31 : mz_t 31 7 = 38 ∧ (0 ≤ ((31 : Nat) : Int) + 7) := by decide +kernel
theorem j_Multiplier_numberIn_58 : mz_t 58 (-50) = 8 ∧ (0 ≤ ((58 : Nat) : Int) + (-50)) := by decide +kernel
theorem j_Multiplier_numberIn : mz_t 14 47 = 61 ∧ (0 ≤ ((14 : Nat) : Int) + 47) ∧ mz_t 31 7 = 38 ∧ (0 ≤ ((31 : Nat) : Int) + 7) ∧ mz_t 58 (-50) = 8 ∧ (0 ≤ ((58 : Nat) : Int) + (-50)) := by decide +kernel
theorem j_Multiplier_canTakeNumber_10 : mz_t 10 25 = 35 ∧ (0 ≤ ((10 : Nat) : Int) + 25) := by decide +kernel
theorem j_Multiplier_canTakeNumber_24 : mz_t 24 5 = 29 ∧ (0 ≤ ((24 : Nat) : Int) + 5) := by decide +kernel
theorem j_Multiplier_canTakeNumber_32 : mz_t 32 (-27) = 5 ∧ (0 ≤ ((32 : Nat) : Int) + (-27)) := by decide +kernel
theorem j_Multiplier_canTakeNumber : mz_t 10 25 = 35 ∧ (0 ≤ ((10 : Nat) : Int) + 25) ∧ mz_t 24 5 = 29 ∧ (0 ≤ ((24 : Nat) : Int) + 5) ∧ mz_t 32 (-27) = 5 ∧ (0 ≤ ((32 : Nat) : Int) + (-27)) := by decide +kernel
theorem j_Multiplier_punchNumber_10 : mz_t 10 21 = 31 ∧ (0 ≤ ((10 : Nat) : Int) + 21) := by decide +kernel
theorem j_Multiplier_punchNumber_28 : mz_t 28 (-23) = 5 ∧ (0 ≤ ((28 : Nat) : Int) + (-23)) := by decide +kernel
theorem j_Multiplier_punchNumber : mz_t 10 21 = 31 ∧ (0 ≤ ((10 : Nat) : Int) + 21) ∧ mz_t 28 (-23) = 5 ∧ (0 ≤ ((28 : Nat) : Int) + (-23)) := by decide +kernel
theorem j_Office_tabulate_4 : mz_t 4 10 = 14 ∧ (0 ≤ ((4 : Nat) : Int) + 10) := by decide +kernel
theorem j_Office_tabulate_11 : mz_t 11 13 = 24 ∧ (0 ≤ ((11 : Nat) : Int) + 13) := by decide +kernel
theorem j_Office_tabulate : mz_t 4 10 = 14 ∧ (0 ≤ ((4 : Nat) : Int) + 10) ∧ mz_t 11 13 = 24 ∧ (0 ≤ ((11 : Nat) : Int) + 13) := by decide +kernel
theorem j_Tabulator_goThrough_23 : mz_t 23 82 = 105 ∧ (0 ≤ ((23 : Nat) : Int) + 82) := by decide +kernel
theorem j_Tabulator_goThrough_36 : mz_t 36 7 = 43 ∧ (0 ≤ ((36 : Nat) : Int) + 7) := by decide +kernel
theorem j_Tabulator_goThrough_40 : mz_t 40 17 = 57 ∧ (0 ≤ ((40 : Nat) : Int) + 17) := by decide +kernel
theorem j_Tabulator_goThrough_74 : mz_t 74 12 = 86 ∧ (0 ≤ ((74 : Nat) : Int) + 12) := by decide +kernel
theorem j_Tabulator_goThrough_102 : mz_t 102 (-85) = 17 ∧ (0 ≤ ((102 : Nat) : Int) + (-85)) := by decide +kernel
theorem j_Tabulator_goThrough : mz_t 23 82 = 105 ∧ (0 ≤ ((23 : Nat) : Int) + 82) ∧ mz_t 36 7 = 43 ∧ (0 ≤ ((36 : Nat) : Int) + 7) ∧ mz_t 40 17 = 57 ∧ (0 ≤ ((40 : Nat) : Int) + 17) ∧ mz_t 74 12 = 86 ∧ (0 ≤ ((74 : Nat) : Int) + 12) ∧ mz_t 102 (-85) = 17 ∧ (0 ≤ ((102 : Nat) : Int) + (-85)) := by decide +kernel
theorem j_Board_isListing_7 : mz_t 7 22 = 29 ∧ (0 ≤ ((7 : Nat) : Int) + 22) := by decide +kernel
theorem j_Board_isListing_18 : mz_t 18 5 = 23 ∧ (0 ≤ ((18 : Nat) : Int) + 5) := by decide +kernel
theorem j_Board_isListing_26 : mz_t 26 (-24) = 2 ∧ (0 ≤ ((26 : Nat) : Int) + (-24)) := by decide +kernel
theorem j_Board_isListing : mz_t 7 22 = 29 ∧ (0 ≤ ((7 : Nat) : Int) + 22) ∧ mz_t 18 5 = 23 ∧ (0 ≤ ((18 : Nat) : Int) + 5) ∧ mz_t 26 (-24) = 2 ∧ (0 ≤ ((26 : Nat) : Int) + (-24)) := by decide +kernel
theorem j_Board_levelsBroken_11 : mz_t 11 101 = 112 ∧ (0 ≤ ((11 : Nat) : Int) + 101) := by decide +kernel
theorem j_Board_levelsBroken_23 : mz_t 23 19 = 42 ∧ (0 ≤ ((23 : Nat) : Int) + 19) := by decide +kernel
theorem j_Board_levelsBroken_35 : mz_t 35 7 = 42 ∧ (0 ≤ ((35 : Nat) : Int) + 7) := by decide +kernel
theorem j_Board_levelsBroken_39 : mz_t 39 4 = 43 ∧ (0 ≤ ((39 : Nat) : Int) + 4) := by decide +kernel
theorem j_Board_levelsBroken_47 : mz_t 47 59 = 106 ∧ (0 ≤ ((47 : Nat) : Int) + 59) := by decide +kernel
theorem j_Board_levelsBroken_59 : mz_t 59 47 = 106 ∧ (0 ≤ ((59 : Nat) : Int) + 47) := by decide +kernel
theorem j_Board_levelsBroken_86 : mz_t 86 20 = 106 ∧ (0 ≤ ((86 : Nat) : Int) + 20) := by decide +kernel
theorem j_Board_levelsBroken_109 : mz_t 109 (-104) = 5 ∧ (0 ≤ ((109 : Nat) : Int) + (-104)) := by decide +kernel
theorem j_Board_levelsBroken : mz_t 11 101 = 112 ∧ (0 ≤ ((11 : Nat) : Int) + 101) ∧ mz_t 23 19 = 42 ∧ (0 ≤ ((23 : Nat) : Int) + 19) ∧ mz_t 35 7 = 42 ∧ (0 ≤ ((35 : Nat) : Int) + 7) ∧ mz_t 39 4 = 43 ∧ (0 ≤ ((39 : Nat) : Int) + 4) ∧ mz_t 47 59 = 106 ∧ (0 ≤ ((47 : Nat) : Int) + 59) ∧ mz_t 59 47 = 106 ∧ (0 ≤ ((59 : Nat) : Int) + 47) ∧ mz_t 86 20 = 106 ∧ (0 ≤ ((86 : Nat) : Int) + 20) ∧ mz_t 109 (-104) = 5 ∧ (0 ≤ ((109 : Nat) : Int) + (-104)) := by decide +kernel
theorem j_Tabulator_faultOfCard_24 : mz_t 24 28 = 52 ∧ (0 ≤ ((24 : Nat) : Int) + 28) := by decide +kernel
theorem j_Tabulator_faultOfCard_29 : mz_t 29 13 = 42 ∧ (0 ≤ ((29 : Nat) : Int) + 13) := by decide +kernel
theorem j_Tabulator_faultOfCard_39 : mz_t 39 13 = 52 ∧ (0 ≤ ((39 : Nat) : Int) + 13) := by decide +kernel
theorem j_Tabulator_faultOfCard_49 : mz_t 49 5 = 54 ∧ (0 ≤ ((49 : Nat) : Int) + 5) := by decide +kernel
theorem j_Tabulator_faultOfCard_60 : mz_t 60 5 = 65 ∧ (0 ≤ ((60 : Nat) : Int) + 5) := by decide +kernel
theorem j_Tabulator_faultOfCard_72 : mz_t 72 7 = 79 ∧ (0 ≤ ((72 : Nat) : Int) + 7) := by decide +kernel
theorem j_Tabulator_faultOfCard_76 : mz_t 76 4 = 80 ∧ (0 ≤ ((76 : Nat) : Int) + 4) := by decide +kernel
theorem j_Tabulator_faultOfCard_92 : mz_t 92 7 = 99 ∧ (0 ≤ ((92 : Nat) : Int) + 7) := by decide +kernel
theorem j_Tabulator_faultOfCard_96 : mz_t 96 4 = 100 ∧ (0 ≤ ((96 : Nat) : Int) + 4) := by decide +kernel
theorem j_Tabulator_faultOfCard : mz_t 24 28 = 52 ∧ (0 ≤ ((24 : Nat) : Int) + 28) ∧ mz_t 29 13 = 42 ∧ (0 ≤ ((29 : Nat) : Int) + 13) ∧ mz_t 39 13 = 52 ∧ (0 ≤ ((39 : Nat) : Int) + 13) ∧ mz_t 49 5 = 54 ∧ (0 ≤ ((49 : Nat) : Int) + 5) ∧ mz_t 60 5 = 65 ∧ (0 ≤ ((60 : Nat) : Int) + 5) ∧ mz_t 72 7 = 79 ∧ (0 ≤ ((72 : Nat) : Int) + 7) ∧ mz_t 76 4 = 80 ∧ (0 ≤ ((76 : Nat) : Int) + 4) ∧ mz_t 92 7 = 99 ∧ (0 ≤ ((92 : Nat) : Int) + 7) ∧ mz_t 96 4 = 100 ∧ (0 ≤ ((96 : Nat) : Int) + 4) := by decide +kernel
theorem j_Tabulator_totalsClash_4 : mz_t 4 34 = 38 ∧ (0 ≤ ((4 : Nat) : Int) + 34) := by decide +kernel
theorem j_Tabulator_totalsClash_27 : mz_t 27 5 = 32 ∧ (0 ≤ ((27 : Nat) : Int) + 5) := by decide +kernel
theorem j_Tabulator_totalsClash_35 : mz_t 35 (-33) = 2 ∧ (0 ≤ ((35 : Nat) : Int) + (-33)) := by decide +kernel
theorem j_Tabulator_totalsClash : mz_t 4 34 = 38 ∧ (0 ≤ ((4 : Nat) : Int) + 34) ∧ mz_t 27 5 = 32 ∧ (0 ≤ ((27 : Nat) : Int) + 5) ∧ mz_t 35 (-33) = 2 ∧ (0 ≤ ((35 : Nat) : Int) + (-33)) := by decide +kernel
theorem j_Board_bringFromCounters_13 : mz_t 13 85 = 98 ∧ (0 ≤ ((13 : Nat) : Int) + 85) := by decide +kernel
theorem j_Board_bringFromCounters_22 : mz_t 22 70 = 92 ∧ (0 ≤ ((22 : Nat) : Int) + 70) := by decide +kernel
theorem j_Board_bringFromCounters_36 : mz_t 36 56 = 92 ∧ (0 ≤ ((36 : Nat) : Int) + 56) := by decide +kernel
theorem j_Board_bringFromCounters_66 : mz_t 66 26 = 92 ∧ (0 ≤ ((66 : Nat) : Int) + 26) := by decide +kernel
theorem j_Board_bringFromCounters_95 : mz_t 95 (-88) = 7 ∧ (0 ≤ ((95 : Nat) : Int) + (-88)) := by decide +kernel
theorem j_Board_bringFromCounters : mz_t 13 85 = 98 ∧ (0 ≤ ((13 : Nat) : Int) + 85) ∧ mz_t 22 70 = 92 ∧ (0 ≤ ((22 : Nat) : Int) + 70) ∧ mz_t 36 56 = 92 ∧ (0 ≤ ((36 : Nat) : Int) + 56) ∧ mz_t 66 26 = 92 ∧ (0 ≤ ((66 : Nat) : Int) + 26) ∧ mz_t 95 (-88) = 7 ∧ (0 ≤ ((95 : Nat) : Int) + (-88)) := by decide +kernel
theorem j_Board_wheelSign_9 : mz_t 9 12 = 21 ∧ (0 ≤ ((9 : Nat) : Int) + 12) := by decide +kernel
theorem j_Board_wheelSign_13 : mz_t 13 8 = 21 ∧ (0 ≤ ((13 : Nat) : Int) + 8) := by decide +kernel
theorem j_Board_wheelSign_18 : mz_t 18 10 = 28 ∧ (0 ≤ ((18 : Nat) : Int) + 10) := by decide +kernel
theorem j_Board_wheelSign : mz_t 9 12 = 21 ∧ (0 ≤ ((9 : Nat) : Int) + 12) ∧ mz_t 13 8 = 21 ∧ (0 ≤ ((13 : Nat) : Int) + 8) ∧ mz_t 18 10 = 28 ∧ (0 ≤ ((18 : Nat) : Int) + 10) := by decide +kernel
theorem j_Tabulator_isAnyOverrun_4 : mz_t 4 50 = 54 ∧ (0 ≤ ((4 : Nat) : Int) + 50) := by decide +kernel
theorem j_Tabulator_isAnyOverrun_14 : mz_t 14 7 = 21 ∧ (0 ≤ ((14 : Nat) : Int) + 7) := by decide +kernel
theorem j_Tabulator_isAnyOverrun_18 : mz_t 18 9 = 27 ∧ (0 ≤ ((18 : Nat) : Int) + 9) := by decide +kernel
theorem j_Tabulator_isAnyOverrun_43 : mz_t 43 5 = 48 ∧ (0 ≤ ((43 : Nat) : Int) + 5) := by decide +kernel
theorem j_Tabulator_isAnyOverrun_51 : mz_t 51 (-49) = 2 ∧ (0 ≤ ((51 : Nat) : Int) + (-49)) := by decide +kernel
theorem j_Tabulator_isAnyOverrun : mz_t 4 50 = 54 ∧ (0 ≤ ((4 : Nat) : Int) + 50) ∧ mz_t 14 7 = 21 ∧ (0 ≤ ((14 : Nat) : Int) + 7) ∧ mz_t 18 9 = 27 ∧ (0 ≤ ((18 : Nat) : Int) + 9) ∧ mz_t 43 5 = 48 ∧ (0 ≤ ((43 : Nat) : Int) + 5) ∧ mz_t 51 (-49) = 2 ∧ (0 ≤ ((51 : Nat) : Int) + (-49)) := by decide +kernel
theorem j_Tabulator_entered_7 : mz_t 7 42 = 49 ∧ (0 ≤ ((7 : Nat) : Int) + 42) := by decide +kernel
theorem j_Tabulator_entered_46 : mz_t 46 (-42) = 4 ∧ (0 ≤ ((46 : Nat) : Int) + (-42)) := by decide +kernel
theorem j_Tabulator_entered : mz_t 7 42 = 49 ∧ (0 ≤ ((7 : Nat) : Int) + 42) ∧ mz_t 46 (-42) = 4 ∧ (0 ≤ ((46 : Nat) : Int) + (-42)) := by decide +kernel
theorem j_Tabulator_totalLines_6 : mz_t 6 20 = 26 ∧ (0 ≤ ((6 : Nat) : Int) + 20) := by decide +kernel
theorem j_Tabulator_totalLines_14 : mz_t 14 6 = 20 ∧ (0 ≤ ((14 : Nat) : Int) + 6) := by decide +kernel
theorem j_Tabulator_totalLines_23 : mz_t 23 (-19) = 4 ∧ (0 ≤ ((23 : Nat) : Int) + (-19)) := by decide +kernel
theorem j_Tabulator_totalLines : mz_t 6 20 = 26 ∧ (0 ≤ ((6 : Nat) : Int) + 20) ∧ mz_t 14 6 = 20 ∧ (0 ≤ ((14 : Nat) : Int) + 6) ∧ mz_t 23 (-19) = 4 ∧ (0 ≤ ((23 : Nat) : Int) + (-19)) := by decide +kernel
theorem j_Board_hasCounterOf_4 : mz_t 4 21 = 25 ∧ (0 ≤ ((4 : Nat) : Int) + 21) := by decide +kernel
theorem j_Board_hasCounterOf_14 : mz_t 14 5 = 19 ∧ (0 ≤ ((14 : Nat) : Int) + 5) := by decide +kernel
theorem j_Board_hasCounterOf_22 : mz_t 22 (-20) = 2 ∧ (0 ≤ ((22 : Nat) : Int) + (-20)) := by decide +kernel
theorem j_Board_hasCounterOf : mz_t 4 21 = 25 ∧ (0 ≤ ((4 : Nat) : Int) + 21) ∧ mz_t 14 5 = 19 ∧ (0 ≤ ((14 : Nat) : Int) + 5) ∧ mz_t 22 (-20) = 2 ∧ (0 ≤ ((22 : Nat) : Int) + (-20)) := by decide +kernel
theorem j_Paper_hasRoomFor_8 : mz_t 8 7 = 15 ∧ (0 ≤ ((8 : Nat) : Int) + 7) := by decide +kernel
theorem j_Paper_hasRoomFor_12 : mz_t 12 4 = 16 ∧ (0 ≤ ((12 : Nat) : Int) + 4) := by decide +kernel
theorem j_Paper_hasRoomFor : mz_t 8 7 = 15 ∧ (0 ≤ ((8 : Nat) : Int) + 7) ∧ mz_t 12 4 = 16 ∧ (0 ≤ ((12 : Nat) : Int) + 4) := by decide +kernel
theorem j_Tabulator_doTotals_4 : mz_t 4 47 = 51 ∧ (0 ≤ ((4 : Nat) : Int) + 47) := by decide +kernel
theorem j_Tabulator_doTotals_12 : mz_t 12 33 = 45 ∧ (0 ≤ ((12 : Nat) : Int) + 33) := by decide +kernel
theorem j_Tabulator_doTotals_48 : mz_t 48 (-46) = 2 ∧ (0 ≤ ((48 : Nat) : Int) + (-46)) := by decide +kernel
theorem j_Tabulator_doTotals : mz_t 4 47 = 51 ∧ (0 ≤ ((4 : Nat) : Int) + 47) ∧ mz_t 12 33 = 45 ∧ (0 ≤ ((12 : Nat) : Int) + 33) ∧ mz_t 48 (-46) = 2 ∧ (0 ≤ ((48 : Nat) : Int) + (-46)) := by decide +kernel
theorem j_Paper_print_5 : mz_t 5 25 = 30 ∧ (0 ≤ ((5 : Nat) : Int) + 25) := by decide +kernel
theorem j_Paper_print_27 : mz_t 27 (-25) = 2 ∧ (0 ≤ ((27 : Nat) : Int) + (-25)) := by decide +kernel
theorem j_Paper_print : mz_t 5 25 = 30 ∧ (0 ≤ ((5 : Nat) : Int) + 25) ∧ mz_t 27 (-25) = 2 ∧ (0 ≤ ((27 : Nat) : Int) + (-25)) := by decide +kernel
theorem j_Tabulator_clearCounters_4 : mz_t 4 26 = 30 ∧ (0 ≤ ((4 : Nat) : Int) + 26) := by decide +kernel
theorem j_Tabulator_clearCounters_14 : mz_t 14 10 = 24 ∧ (0 ≤ ((14 : Nat) : Int) + 10) := by decide +kernel
theorem j_Tabulator_clearCounters_27 : mz_t 27 (-25) = 2 ∧ (0 ≤ ((27 : Nat) : Int) + (-25)) := by decide +kernel
theorem j_Tabulator_clearCounters : mz_t 4 26 = 30 ∧ (0 ≤ ((4 : Nat) : Int) + 26) ∧ mz_t 14 10 = 24 ∧ (0 ≤ ((14 : Nat) : Int) + 10) ∧ mz_t 27 (-25) = 2 ∧ (0 ≤ ((27 : Nat) : Int) + (-25)) := by decide +kernel
theorem j_Tabulator_doCard_1 : mz_t 1 14 = 15 ∧ (0 ≤ ((1 : Nat) : Int) + 14) := by decide +kernel
theorem j_Tabulator_doCard_19 : mz_t 19 23 = 42 ∧ (0 ≤ ((19 : Nat) : Int) + 23) := by decide +kernel
theorem j_Tabulator_doCard_39 : mz_t 39 (-22) = 17 ∧ (0 ≤ ((39 : Nat) : Int) + (-22)) := by decide +kernel
theorem j_Tabulator_doCard : mz_t 1 14 = 15 ∧ (0 ≤ ((1 : Nat) : Int) + 14) ∧ mz_t 19 23 = 42 ∧ (0 ≤ ((19 : Nat) : Int) + 23) ∧ mz_t 39 (-22) = 17 ∧ (0 ≤ ((39 : Nat) : Int) + (-22)) := by decide +kernel
theorem j_Tabulator_finish_1 : mz_t 1 29 = 30 ∧ (0 ≤ ((1 : Nat) : Int) + 29) := by decide +kernel
theorem j_Tabulator_finish_13 : mz_t 13 11 = 24 ∧ (0 ≤ ((13 : Nat) : Int) + 11) := by decide +kernel
theorem j_Tabulator_finish : mz_t 1 29 = 30 ∧ (0 ≤ ((1 : Nat) : Int) + 29) ∧ mz_t 13 11 = 24 ∧ (0 ≤ ((13 : Nat) : Int) + 11) := by decide +kernel
theorem j_Tabulator_faultOfLastTotals_6 : mz_t 6 5 = 11 ∧ (0 ≤ ((6 : Nat) : Int) + 5) := by decide +kernel
theorem j_Tabulator_faultOfLastTotals_23 : mz_t 23 7 = 30 ∧ (0 ≤ ((23 : Nat) : Int) + 7) := by decide +kernel
theorem j_Tabulator_faultOfLastTotals_27 : mz_t 27 4 = 31 ∧ (0 ≤ ((27 : Nat) : Int) + 4) := by decide +kernel
theorem j_Tabulator_faultOfLastTotals : mz_t 6 5 = 11 ∧ (0 ≤ ((6 : Nat) : Int) + 5) ∧ mz_t 23 7 = 30 ∧ (0 ≤ ((23 : Nat) : Int) + 7) ∧ mz_t 27 4 = 31 ∧ (0 ≤ ((27 : Nat) : Int) + 4) := by decide +kernel
theorem j_Office_sign_4 : mz_t 4 27 = 31 ∧ (0 ≤ ((4 : Nat) : Int) + 27) := by decide +kernel
theorem j_Office_sign_8 : mz_t 8 23 = 31 ∧ (0 ≤ ((8 : Nat) : Int) + 23) := by decide +kernel
theorem j_Office_sign_21 : mz_t 21 10 = 31 ∧ (0 ≤ ((21 : Nat) : Int) + 10) := by decide +kernel
theorem j_Office_sign_28 : mz_t 28 13 = 41 ∧ (0 ≤ ((28 : Nat) : Int) + 13) := by decide +kernel
theorem j_Office_sign : mz_t 4 27 = 31 ∧ (0 ≤ ((4 : Nat) : Int) + 27) ∧ mz_t 8 23 = 31 ∧ (0 ≤ ((8 : Nat) : Int) + 23) ∧ mz_t 21 10 = 31 ∧ (0 ≤ ((21 : Nat) : Int) + 10) ∧ mz_t 28 13 = 41 ∧ (0 ≤ ((28 : Nat) : Int) + 13) := by decide +kernel
theorem j_Office_printed_1 : mz_t 1 27 = 28 ∧ (0 ≤ ((1 : Nat) : Int) + 27) := by decide +kernel
theorem j_Office_printed_15 : mz_t 15 13 = 28 ∧ (0 ≤ ((15 : Nat) : Int) + 13) := by decide +kernel
theorem j_Office_printed_19 : mz_t 19 9 = 28 ∧ (0 ≤ ((19 : Nat) : Int) + 9) := by decide +kernel
theorem j_Office_printed_25 : mz_t 25 13 = 38 ∧ (0 ≤ ((25 : Nat) : Int) + 13) := by decide +kernel
theorem j_Office_printed : mz_t 1 27 = 28 ∧ (0 ≤ ((1 : Nat) : Int) + 27) ∧ mz_t 15 13 = 28 ∧ (0 ≤ ((15 : Nat) : Int) + 13) ∧ mz_t 19 9 = 28 ∧ (0 ≤ ((19 : Nat) : Int) + 9) ∧ mz_t 25 13 = 38 ∧ (0 ≤ ((25 : Nat) : Int) + 13) := by decide +kernel
theorem j_Office_counter_4 : mz_t 4 13 = 17 ∧ (0 ≤ ((4 : Nat) : Int) + 13) := by decide +kernel
theorem j_Office_counter : mz_t 4 13 = 17 ∧ (0 ≤ ((4 : Nat) : Int) + 13) := by decide +kernel
theorem j_Model_init_114 : mz_t 114 16 = 130 ∧ (0 ≤ ((114 : Nat) : Int) + 16) := by decide +kernel
theorem j_Model_init_127 : mz_t 127 (-16) = 111 ∧ (0 ≤ ((127 : Nat) : Int) + (-16)) := by decide +kernel
theorem j_Model_init : mz_t 114 16 = 130 ∧ (0 ≤ ((114 : Nat) : Int) + 16) ∧ mz_t 127 (-16) = 111 ∧ (0 ≤ ((127 : Nat) : Int) + (-16)) := by decide +kernel
theorem j_Model_card_9 : mz_t 9 17 = 26 ∧ (0 ≤ ((9 : Nat) : Int) + 17) := by decide +kernel
theorem j_Model_card_19 : mz_t 19 7 = 26 ∧ (0 ≤ ((19 : Nat) : Int) + 7) := by decide +kernel
theorem j_Model_card_23 : mz_t 23 4 = 27 ∧ (0 ≤ ((23 : Nat) : Int) + 4) := by decide +kernel
theorem j_Model_card_36 : mz_t 36 57 = 93 ∧ (0 ≤ ((36 : Nat) : Int) + 57) := by decide +kernel
theorem j_Model_card_41 : mz_t 41 43 = 84 ∧ (0 ≤ ((41 : Nat) : Int) + 43) := by decide +kernel
theorem j_Model_card_48 : mz_t 48 7 = 55 ∧ (0 ≤ ((48 : Nat) : Int) + 7) := by decide +kernel
theorem j_Model_card_52 : mz_t 52 5 = 57 ∧ (0 ≤ ((52 : Nat) : Int) + 5) := by decide +kernel
theorem j_Model_card_77 : mz_t 77 7 = 84 ∧ (0 ≤ ((77 : Nat) : Int) + 7) := by decide +kernel
theorem j_Model_card_81 : mz_t 81 4 = 85 ∧ (0 ≤ ((81 : Nat) : Int) + 4) := by decide +kernel
theorem j_Model_card_90 : mz_t 90 (-58) = 32 ∧ (0 ≤ ((90 : Nat) : Int) + (-58)) := by decide +kernel
theorem j_Model_card_95 : mz_t 95 5 = 100 ∧ (0 ≤ ((95 : Nat) : Int) + 5) := by decide +kernel
theorem j_Model_card_113 : mz_t 113 53 = 166 ∧ (0 ≤ ((113 : Nat) : Int) + 53) := by decide +kernel
theorem j_Model_card_132 : mz_t 132 7 = 139 ∧ (0 ≤ ((132 : Nat) : Int) + 7) := by decide +kernel
theorem j_Model_card_136 : mz_t 136 5 = 141 ∧ (0 ≤ ((136 : Nat) : Int) + 5) := by decide +kernel
theorem j_Model_card_163 : mz_t 163 (-54) = 109 ∧ (0 ≤ ((163 : Nat) : Int) + (-54)) := by decide +kernel
theorem j_Model_card : mz_t 9 17 = 26 ∧ (0 ≤ ((9 : Nat) : Int) + 17) ∧ mz_t 19 7 = 26 ∧ (0 ≤ ((19 : Nat) : Int) + 7) ∧ mz_t 23 4 = 27 ∧ (0 ≤ ((23 : Nat) : Int) + 4) ∧ mz_t 36 57 = 93 ∧ (0 ≤ ((36 : Nat) : Int) + 57) ∧ mz_t 41 43 = 84 ∧ (0 ≤ ((41 : Nat) : Int) + 43) ∧ mz_t 48 7 = 55 ∧ (0 ≤ ((48 : Nat) : Int) + 7) ∧ mz_t 52 5 = 57 ∧ (0 ≤ ((52 : Nat) : Int) + 5) ∧ mz_t 77 7 = 84 ∧ (0 ≤ ((77 : Nat) : Int) + 7) ∧ mz_t 81 4 = 85 ∧ (0 ≤ ((81 : Nat) : Int) + 4) ∧ mz_t 90 (-58) = 32 ∧ (0 ≤ ((90 : Nat) : Int) + (-58)) ∧ mz_t 95 5 = 100 ∧ (0 ≤ ((95 : Nat) : Int) + 5) ∧ mz_t 113 53 = 166 ∧ (0 ≤ ((113 : Nat) : Int) + 53) ∧ mz_t 132 7 = 139 ∧ (0 ≤ ((132 : Nat) : Int) + 7) ∧ mz_t 136 5 = 141 ∧ (0 ≤ ((136 : Nat) : Int) + 5) ∧ mz_t 163 (-54) = 109 ∧ (0 ≤ ((163 : Nat) : Int) + (-54)) := by decide +kernel
theorem j_Model_isDeck_1 : mz_t 1 13 = 14 ∧ (0 ≤ ((1 : Nat) : Int) + 13) := by decide +kernel
theorem j_Model_isDeck_7 : mz_t 7 7 = 14 ∧ (0 ≤ ((7 : Nat) : Int) + 7) := by decide +kernel
theorem j_Model_isDeck_11 : mz_t 11 4 = 15 ∧ (0 ≤ ((11 : Nat) : Int) + 4) := by decide +kernel
theorem j_Model_isDeck : mz_t 1 13 = 14 ∧ (0 ≤ ((1 : Nat) : Int) + 13) ∧ mz_t 7 7 = 14 ∧ (0 ≤ ((7 : Nat) : Int) + 7) ∧ mz_t 11 4 = 15 ∧ (0 ≤ ((11 : Nat) : Int) + 4) := by decide +kernel
theorem j_Model_isSign_3 : mz_t 3 27 = 30 ∧ (0 ≤ ((3 : Nat) : Int) + 27) := by decide +kernel
theorem j_Model_isSign_9 : mz_t 9 9 = 18 ∧ (0 ≤ ((9 : Nat) : Int) + 9) := by decide +kernel
theorem j_Model_isSign_15 : mz_t 15 15 = 30 ∧ (0 ≤ ((15 : Nat) : Int) + 15) := by decide +kernel
theorem j_Model_isSign_21 : mz_t 21 13 = 34 ∧ (0 ≤ ((21 : Nat) : Int) + 13) := by decide +kernel
theorem j_Model_isSign_27 : mz_t 27 7 = 34 ∧ (0 ≤ ((27 : Nat) : Int) + 7) := by decide +kernel
theorem j_Model_isSign_31 : mz_t 31 4 = 35 ∧ (0 ≤ ((31 : Nat) : Int) + 4) := by decide +kernel
theorem j_Model_isSign : mz_t 3 27 = 30 ∧ (0 ≤ ((3 : Nat) : Int) + 27) ∧ mz_t 9 9 = 18 ∧ (0 ≤ ((9 : Nat) : Int) + 9) ∧ mz_t 15 15 = 30 ∧ (0 ≤ ((15 : Nat) : Int) + 15) ∧ mz_t 21 13 = 34 ∧ (0 ≤ ((21 : Nat) : Int) + 13) ∧ mz_t 27 7 = 34 ∧ (0 ≤ ((27 : Nat) : Int) + 7) ∧ mz_t 31 4 = 35 ∧ (0 ≤ ((31 : Nat) : Int) + 4) := by decide +kernel
theorem j_Model_newCard_5 : mz_t 5 25 = 30 ∧ (0 ≤ ((5 : Nat) : Int) + 25) := by decide +kernel
theorem j_Model_newCard_27 : mz_t 27 (-25) = 2 ∧ (0 ≤ ((27 : Nat) : Int) + (-25)) := by decide +kernel
theorem j_Model_newCard : mz_t 5 25 = 30 ∧ (0 ≤ ((5 : Nat) : Int) + 25) ∧ mz_t 27 (-25) = 2 ∧ (0 ≤ ((27 : Nat) : Int) + (-25)) := by decide +kernel
theorem j_Model_wire_9 : mz_t 9 28 = 37 ∧ (0 ≤ ((9 : Nat) : Int) + 28) := by decide +kernel
theorem j_Model_wire_16 : mz_t 16 21 = 37 ∧ (0 ≤ ((16 : Nat) : Int) + 21) := by decide +kernel
theorem j_Model_wire_23 : mz_t 23 14 = 37 ∧ (0 ≤ ((23 : Nat) : Int) + 14) := by decide +kernel
theorem j_Model_wire_34 : mz_t 34 5 = 39 ∧ (0 ≤ ((34 : Nat) : Int) + 5) := by decide +kernel
theorem j_Model_wire_58 : mz_t 58 33 = 91 ∧ (0 ≤ ((58 : Nat) : Int) + 33) := by decide +kernel
theorem j_Model_wire_69 : mz_t 69 16 = 85 ∧ (0 ≤ ((69 : Nat) : Int) + 16) := by decide +kernel
theorem j_Model_wire_80 : mz_t 80 5 = 85 ∧ (0 ≤ ((80 : Nat) : Int) + 5) := by decide +kernel
theorem j_Model_wire_88 : mz_t 88 (-43) = 45 ∧ (0 ≤ ((88 : Nat) : Int) + (-43)) := by decide +kernel
theorem j_Model_wire : mz_t 9 28 = 37 ∧ (0 ≤ ((9 : Nat) : Int) + 28) ∧ mz_t 16 21 = 37 ∧ (0 ≤ ((16 : Nat) : Int) + 21) ∧ mz_t 23 14 = 37 ∧ (0 ≤ ((23 : Nat) : Int) + 14) ∧ mz_t 34 5 = 39 ∧ (0 ≤ ((34 : Nat) : Int) + 5) ∧ mz_t 58 33 = 91 ∧ (0 ≤ ((58 : Nat) : Int) + 33) ∧ mz_t 69 16 = 85 ∧ (0 ≤ ((69 : Nat) : Int) + 16) ∧ mz_t 80 5 = 85 ∧ (0 ≤ ((80 : Nat) : Int) + 5) ∧ mz_t 88 (-43) = 45 ∧ (0 ≤ ((88 : Nat) : Int) + (-43)) := by decide +kernel
theorem j_Model_isBoard_1 : mz_t 1 12 = 13 ∧ (0 ≤ ((1 : Nat) : Int) + 12) := by decide +kernel
theorem j_Model_isBoard_6 : mz_t 6 7 = 13 ∧ (0 ≤ ((6 : Nat) : Int) + 7) := by decide +kernel
theorem j_Model_isBoard_10 : mz_t 10 4 = 14 ∧ (0 ≤ ((10 : Nat) : Int) + 4) := by decide +kernel
theorem j_Model_isBoard : mz_t 1 12 = 13 ∧ (0 ≤ ((1 : Nat) : Int) + 12) ∧ mz_t 6 7 = 13 ∧ (0 ≤ ((6 : Nat) : Int) + 7) ∧ mz_t 10 4 = 14 ∧ (0 ≤ ((10 : Nat) : Int) + 4) := by decide +kernel
theorem j_Model_isFrom_1 : mz_t 1 9 = 10 ∧ (0 ≤ ((1 : Nat) : Int) + 9) := by decide +kernel
theorem j_Model_isFrom_7 : mz_t 7 15 = 22 ∧ (0 ≤ ((7 : Nat) : Int) + 15) := by decide +kernel
theorem j_Model_isFrom_13 : mz_t 13 13 = 26 ∧ (0 ≤ ((13 : Nat) : Int) + 13) := by decide +kernel
theorem j_Model_isFrom_19 : mz_t 19 7 = 26 ∧ (0 ≤ ((19 : Nat) : Int) + 7) := by decide +kernel
theorem j_Model_isFrom_23 : mz_t 23 4 = 27 ∧ (0 ≤ ((23 : Nat) : Int) + 4) := by decide +kernel
theorem j_Model_isFrom : mz_t 1 9 = 10 ∧ (0 ≤ ((1 : Nat) : Int) + 9) ∧ mz_t 7 15 = 22 ∧ (0 ≤ ((7 : Nat) : Int) + 15) ∧ mz_t 13 13 = 26 ∧ (0 ≤ ((13 : Nat) : Int) + 13) ∧ mz_t 19 7 = 26 ∧ (0 ≤ ((19 : Nat) : Int) + 7) ∧ mz_t 23 4 = 27 ∧ (0 ≤ ((23 : Nat) : Int) + 4) := by decide +kernel
theorem j_Model_isTo_1 : mz_t 1 9 = 10 ∧ (0 ≤ ((1 : Nat) : Int) + 9) := by decide +kernel
theorem j_Model_isTo_7 : mz_t 7 39 = 46 ∧ (0 ≤ ((7 : Nat) : Int) + 39) := by decide +kernel
theorem j_Model_isTo_13 : mz_t 13 9 = 22 ∧ (0 ≤ ((13 : Nat) : Int) + 9) := by decide +kernel
theorem j_Model_isTo_19 : mz_t 19 27 = 46 ∧ (0 ≤ ((19 : Nat) : Int) + 27) := by decide +kernel
theorem j_Model_isTo_25 : mz_t 25 9 = 34 ∧ (0 ≤ ((25 : Nat) : Int) + 9) := by decide +kernel
theorem j_Model_isTo_31 : mz_t 31 15 = 46 ∧ (0 ≤ ((31 : Nat) : Int) + 15) := by decide +kernel
theorem j_Model_isTo_37 : mz_t 37 13 = 50 ∧ (0 ≤ ((37 : Nat) : Int) + 13) := by decide +kernel
theorem j_Model_isTo_43 : mz_t 43 7 = 50 ∧ (0 ≤ ((43 : Nat) : Int) + 7) := by decide +kernel
theorem j_Model_isTo_47 : mz_t 47 4 = 51 ∧ (0 ≤ ((47 : Nat) : Int) + 4) := by decide +kernel
theorem j_Model_isTo : mz_t 1 9 = 10 ∧ (0 ≤ ((1 : Nat) : Int) + 9) ∧ mz_t 7 39 = 46 ∧ (0 ≤ ((7 : Nat) : Int) + 39) ∧ mz_t 13 9 = 22 ∧ (0 ≤ ((13 : Nat) : Int) + 9) ∧ mz_t 19 27 = 46 ∧ (0 ≤ ((19 : Nat) : Int) + 27) ∧ mz_t 25 9 = 34 ∧ (0 ≤ ((25 : Nat) : Int) + 9) ∧ mz_t 31 15 = 46 ∧ (0 ≤ ((31 : Nat) : Int) + 15) ∧ mz_t 37 13 = 50 ∧ (0 ≤ ((37 : Nat) : Int) + 13) ∧ mz_t 43 7 = 50 ∧ (0 ≤ ((43 : Nat) : Int) + 7) ∧ mz_t 47 4 = 51 ∧ (0 ≤ ((47 : Nat) : Int) + 4) := by decide +kernel
theorem j_Model_strip_9 : mz_t 9 5 = 14 ∧ (0 ≤ ((9 : Nat) : Int) + 5) := by decide +kernel
theorem j_Model_strip_32 : mz_t 32 20 = 52 ∧ (0 ≤ ((32 : Nat) : Int) + 20) := by decide +kernel
theorem j_Model_strip_49 : mz_t 49 (-19) = 30 ∧ (0 ≤ ((49 : Nat) : Int) + (-19)) := by decide +kernel
theorem j_Model_strip : mz_t 9 5 = 14 ∧ (0 ≤ ((9 : Nat) : Int) + 5) ∧ mz_t 32 20 = 52 ∧ (0 ≤ ((32 : Nat) : Int) + 20) ∧ mz_t 49 (-19) = 30 ∧ (0 ≤ ((49 : Nat) : Int) + (-19)) := by decide +kernel
theorem j_Model_level_9 : mz_t 9 21 = 30 ∧ (0 ≤ ((9 : Nat) : Int) + 21) := by decide +kernel
theorem j_Model_level_13 : mz_t 13 17 = 30 ∧ (0 ≤ ((13 : Nat) : Int) + 17) := by decide +kernel
theorem j_Model_level_18 : mz_t 18 12 = 30 ∧ (0 ≤ ((18 : Nat) : Int) + 12) := by decide +kernel
theorem j_Model_level_22 : mz_t 22 8 = 30 ∧ (0 ≤ ((22 : Nat) : Int) + 8) := by decide +kernel
theorem j_Model_level_27 : mz_t 27 5 = 32 ∧ (0 ≤ ((27 : Nat) : Int) + 5) := by decide +kernel
theorem j_Model_level : mz_t 9 21 = 30 ∧ (0 ≤ ((9 : Nat) : Int) + 21) ∧ mz_t 13 17 = 30 ∧ (0 ≤ ((13 : Nat) : Int) + 17) ∧ mz_t 18 12 = 30 ∧ (0 ≤ ((18 : Nat) : Int) + 12) ∧ mz_t 22 8 = 30 ∧ (0 ≤ ((22 : Nat) : Int) + 8) ∧ mz_t 27 5 = 32 ∧ (0 ≤ ((27 : Nat) : Int) + 5) := by decide +kernel
theorem j_Model_pass_5 : mz_t 5 14 = 19 ∧ (0 ≤ ((5 : Nat) : Int) + 14) := by decide +kernel
theorem j_Model_pass_12 : mz_t 12 7 = 19 ∧ (0 ≤ ((12 : Nat) : Int) + 7) := by decide +kernel
theorem j_Model_pass_16 : mz_t 16 4 = 20 ∧ (0 ≤ ((16 : Nat) : Int) + 4) := by decide +kernel
theorem j_Model_pass_27 : mz_t 27 7 = 34 ∧ (0 ≤ ((27 : Nat) : Int) + 7) := by decide +kernel
theorem j_Model_pass_31 : mz_t 31 10 = 41 ∧ (0 ≤ ((31 : Nat) : Int) + 10) := by decide +kernel
theorem j_Model_pass : mz_t 5 14 = 19 ∧ (0 ≤ ((5 : Nat) : Int) + 14) ∧ mz_t 12 7 = 19 ∧ (0 ≤ ((12 : Nat) : Int) + 7) ∧ mz_t 16 4 = 20 ∧ (0 ≤ ((16 : Nat) : Int) + 4) ∧ mz_t 27 7 = 34 ∧ (0 ≤ ((27 : Nat) : Int) + 7) ∧ mz_t 31 10 = 41 ∧ (0 ≤ ((31 : Nat) : Int) + 10) := by decide +kernel
theorem j_Model_isColumn_1 : mz_t 1 13 = 14 ∧ (0 ≤ ((1 : Nat) : Int) + 13) := by decide +kernel
theorem j_Model_isColumn_7 : mz_t 7 7 = 14 ∧ (0 ≤ ((7 : Nat) : Int) + 7) := by decide +kernel
theorem j_Model_isColumn_11 : mz_t 11 4 = 15 ∧ (0 ≤ ((11 : Nat) : Int) + 4) := by decide +kernel
theorem j_Model_isColumn : mz_t 1 13 = 14 ∧ (0 ≤ ((1 : Nat) : Int) + 13) ∧ mz_t 7 7 = 14 ∧ (0 ≤ ((7 : Nat) : Int) + 7) ∧ mz_t 11 4 = 15 ∧ (0 ≤ ((11 : Nat) : Int) + 4) := by decide +kernel
theorem j_Model_sift_13 : mz_t 13 86 = 99 ∧ (0 ≤ ((13 : Nat) : Int) + 86) := by decide +kernel
theorem j_Model_sift_31 : mz_t 31 45 = 76 ∧ (0 ≤ ((31 : Nat) : Int) + 45) := by decide +kernel
theorem j_Model_sift_49 : mz_t 49 21 = 70 ∧ (0 ≤ ((49 : Nat) : Int) + 21) := by decide +kernel
theorem j_Model_sift_73 : mz_t 73 (-50) = 23 ∧ (0 ≤ ((73 : Nat) : Int) + (-50)) := by decide +kernel
theorem j_Model_sift_82 : mz_t 82 7 = 89 ∧ (0 ≤ ((82 : Nat) : Int) + 7) := by decide +kernel
theorem j_Model_sift_86 : mz_t 86 4 = 90 ∧ (0 ≤ ((86 : Nat) : Int) + 4) := by decide +kernel
theorem j_Model_sift_96 : mz_t 96 (-87) = 9 ∧ (0 ≤ ((96 : Nat) : Int) + (-87)) := by decide +kernel
theorem j_Model_sift_106 : mz_t 106 29 = 135 ∧ (0 ≤ ((106 : Nat) : Int) + 29) := by decide +kernel
theorem j_Model_sift_132 : mz_t 132 (-30) = 102 ∧ (0 ≤ ((132 : Nat) : Int) + (-30)) := by decide +kernel
theorem j_Model_sift : mz_t 13 86 = 99 ∧ (0 ≤ ((13 : Nat) : Int) + 86) ∧ mz_t 31 45 = 76 ∧ (0 ≤ ((31 : Nat) : Int) + 45) ∧ mz_t 49 21 = 70 ∧ (0 ≤ ((49 : Nat) : Int) + 21) ∧ mz_t 73 (-50) = 23 ∧ (0 ≤ ((73 : Nat) : Int) + (-50)) ∧ mz_t 82 7 = 89 ∧ (0 ≤ ((82 : Nat) : Int) + 7) ∧ mz_t 86 4 = 90 ∧ (0 ≤ ((86 : Nat) : Int) + 4) ∧ mz_t 96 (-87) = 9 ∧ (0 ≤ ((96 : Nat) : Int) + (-87)) ∧ mz_t 106 29 = 135 ∧ (0 ≤ ((106 : Nat) : Int) + 29) ∧ mz_t 132 (-30) = 102 ∧ (0 ≤ ((132 : Nat) : Int) + (-30)) := by decide +kernel
theorem j_Model_keyOf_1 : mz_t 1 15 = 16 ∧ (0 ≤ ((1 : Nat) : Int) + 15) := by decide +kernel
theorem j_Model_keyOf_13 : mz_t 13 14 = 27 ∧ (0 ≤ ((13 : Nat) : Int) + 14) := by decide +kernel
theorem j_Model_keyOf : mz_t 1 15 = 16 ∧ (0 ≤ ((1 : Nat) : Int) + 15) ∧ mz_t 13 14 = 27 ∧ (0 ≤ ((13 : Nat) : Int) + 14) := by decide +kernel
theorem j_Model_zoneOf_3 : mz_t 3 7 = 10 ∧ (0 ≤ ((3 : Nat) : Int) + 7) := by decide +kernel
theorem j_Model_zoneOf_7 : mz_t 7 24 = 31 ∧ (0 ≤ ((7 : Nat) : Int) + 24) := by decide +kernel
theorem j_Model_zoneOf_13 : mz_t 13 7 = 20 ∧ (0 ≤ ((13 : Nat) : Int) + 7) := by decide +kernel
theorem j_Model_zoneOf_17 : mz_t 17 14 = 31 ∧ (0 ≤ ((17 : Nat) : Int) + 14) := by decide +kernel
theorem j_Model_zoneOf_23 : mz_t 23 7 = 30 ∧ (0 ≤ ((23 : Nat) : Int) + 7) := by decide +kernel
theorem j_Model_zoneOf_27 : mz_t 27 4 = 31 ∧ (0 ≤ ((27 : Nat) : Int) + 4) := by decide +kernel
theorem j_Model_zoneOf : mz_t 3 7 = 10 ∧ (0 ≤ ((3 : Nat) : Int) + 7) ∧ mz_t 7 24 = 31 ∧ (0 ≤ ((7 : Nat) : Int) + 24) ∧ mz_t 13 7 = 20 ∧ (0 ≤ ((13 : Nat) : Int) + 7) ∧ mz_t 17 14 = 31 ∧ (0 ≤ ((17 : Nat) : Int) + 14) ∧ mz_t 23 7 = 30 ∧ (0 ≤ ((23 : Nat) : Int) + 7) ∧ mz_t 27 4 = 31 ∧ (0 ≤ ((27 : Nat) : Int) + 4) := by decide +kernel
theorem j_Model_digitOf_3 : mz_t 3 5 = 8 ∧ (0 ≤ ((3 : Nat) : Int) + 5) := by decide +kernel
theorem j_Model_digitOf_11 : mz_t 11 10 = 21 ∧ (0 ≤ ((11 : Nat) : Int) + 10) := by decide +kernel
theorem j_Model_digitOf_18 : mz_t 18 33 = 51 ∧ (0 ≤ ((18 : Nat) : Int) + 33) := by decide +kernel
theorem j_Model_digitOf_24 : mz_t 24 10 = 34 ∧ (0 ≤ ((24 : Nat) : Int) + 10) := by decide +kernel
theorem j_Model_digitOf_31 : mz_t 31 20 = 51 ∧ (0 ≤ ((31 : Nat) : Int) + 20) := by decide +kernel
theorem j_Model_digitOf_37 : mz_t 37 10 = 47 ∧ (0 ≤ ((37 : Nat) : Int) + 10) := by decide +kernel
theorem j_Model_digitOf_44 : mz_t 44 7 = 51 ∧ (0 ≤ ((44 : Nat) : Int) + 7) := by decide +kernel
theorem j_Model_digitOf : mz_t 3 5 = 8 ∧ (0 ≤ ((3 : Nat) : Int) + 5) ∧ mz_t 11 10 = 21 ∧ (0 ≤ ((11 : Nat) : Int) + 10) ∧ mz_t 18 33 = 51 ∧ (0 ≤ ((18 : Nat) : Int) + 33) ∧ mz_t 24 10 = 34 ∧ (0 ≤ ((24 : Nat) : Int) + 10) ∧ mz_t 31 20 = 51 ∧ (0 ≤ ((31 : Nat) : Int) + 20) ∧ mz_t 37 10 = 47 ∧ (0 ≤ ((37 : Nat) : Int) + 10) ∧ mz_t 44 7 = 51 ∧ (0 ≤ ((44 : Nat) : Int) + 7) := by decide +kernel
theorem j_Model_sort_5 : mz_t 5 15 = 20 ∧ (0 ≤ ((5 : Nat) : Int) + 15) := by decide +kernel
theorem j_Model_sort_13 : mz_t 13 7 = 20 ∧ (0 ≤ ((13 : Nat) : Int) + 7) := by decide +kernel
theorem j_Model_sort_17 : mz_t 17 4 = 21 ∧ (0 ≤ ((17 : Nat) : Int) + 4) := by decide +kernel
theorem j_Model_sort_28 : mz_t 28 13 = 41 ∧ (0 ≤ ((28 : Nat) : Int) + 13) := by decide +kernel
theorem j_Model_sort_38 : mz_t 38 5 = 43 ∧ (0 ≤ ((38 : Nat) : Int) + 5) := by decide +kernel
theorem j_Model_sort_52 : mz_t 52 78 = 130 ∧ (0 ≤ ((52 : Nat) : Int) + 78) := by decide +kernel
theorem j_Model_sort_69 : mz_t 69 40 = 109 ∧ (0 ≤ ((69 : Nat) : Int) + 40) := by decide +kernel
theorem j_Model_sort_74 : mz_t 74 22 = 96 ∧ (0 ≤ ((74 : Nat) : Int) + 22) := by decide +kernel
theorem j_Model_sort_93 : mz_t 93 7 = 100 ∧ (0 ≤ ((93 : Nat) : Int) + 7) := by decide +kernel
theorem j_Model_sort_97 : mz_t 97 4 = 101 ∧ (0 ≤ ((97 : Nat) : Int) + 4) := by decide +kernel
theorem j_Model_sort_106 : mz_t 106 (-45) = 61 ∧ (0 ≤ ((106 : Nat) : Int) + (-45)) := by decide +kernel
theorem j_Model_sort_113 : mz_t 113 7 = 120 ∧ (0 ≤ ((113 : Nat) : Int) + 7) := by decide +kernel
theorem j_Model_sort_117 : mz_t 117 4 = 121 ∧ (0 ≤ ((117 : Nat) : Int) + 4) := by decide +kernel
theorem j_Model_sort_127 : mz_t 127 (-78) = 49 ∧ (0 ≤ ((127 : Nat) : Int) + (-78)) := by decide +kernel
theorem j_Model_sort_141 : mz_t 141 28 = 169 ∧ (0 ≤ ((141 : Nat) : Int) + 28) := by decide +kernel
theorem j_Model_sort_166 : mz_t 166 (-33) = 133 ∧ (0 ≤ ((166 : Nat) : Int) + (-33)) := by decide +kernel
theorem j_Model_sort_180 : mz_t 180 29 = 209 ∧ (0 ≤ ((180 : Nat) : Int) + 29) := by decide +kernel
theorem j_Model_sort_206 : mz_t 206 (-34) = 172 ∧ (0 ≤ ((206 : Nat) : Int) + (-34)) := by decide +kernel
theorem j_Model_sort : mz_t 5 15 = 20 ∧ (0 ≤ ((5 : Nat) : Int) + 15) ∧ mz_t 13 7 = 20 ∧ (0 ≤ ((13 : Nat) : Int) + 7) ∧ mz_t 17 4 = 21 ∧ (0 ≤ ((17 : Nat) : Int) + 4) ∧ mz_t 28 13 = 41 ∧ (0 ≤ ((28 : Nat) : Int) + 13) ∧ mz_t 38 5 = 43 ∧ (0 ≤ ((38 : Nat) : Int) + 5) ∧ mz_t 52 78 = 130 ∧ (0 ≤ ((52 : Nat) : Int) + 78) ∧ mz_t 69 40 = 109 ∧ (0 ≤ ((69 : Nat) : Int) + 40) ∧ mz_t 74 22 = 96 ∧ (0 ≤ ((74 : Nat) : Int) + 22) ∧ mz_t 93 7 = 100 ∧ (0 ≤ ((93 : Nat) : Int) + 7) ∧ mz_t 97 4 = 101 ∧ (0 ≤ ((97 : Nat) : Int) + 4) ∧ mz_t 106 (-45) = 61 ∧ (0 ≤ ((106 : Nat) : Int) + (-45)) ∧ mz_t 113 7 = 120 ∧ (0 ≤ ((113 : Nat) : Int) + 7) ∧ mz_t 117 4 = 121 ∧ (0 ≤ ((117 : Nat) : Int) + 4) ∧ mz_t 127 (-78) = 49 ∧ (0 ≤ ((127 : Nat) : Int) + (-78)) ∧ mz_t 141 28 = 169 ∧ (0 ≤ ((141 : Nat) : Int) + 28) ∧ mz_t 166 (-33) = 133 ∧ (0 ≤ ((166 : Nat) : Int) + (-33)) ∧ mz_t 180 29 = 209 ∧ (0 ≤ ((180 : Nat) : Int) + 29) ∧ mz_t 206 (-34) = 172 ∧ (0 ≤ ((206 : Nat) : Int) + (-34)) := by decide +kernel
theorem j_Model_isField_1 : mz_t 1 18 = 19 ∧ (0 ≤ ((1 : Nat) : Int) + 18) := by decide +kernel
theorem j_Model_isField_6 : mz_t 6 13 = 19 ∧ (0 ≤ ((6 : Nat) : Int) + 13) := by decide +kernel
theorem j_Model_isField_12 : mz_t 12 7 = 19 ∧ (0 ≤ ((12 : Nat) : Int) + 7) := by decide +kernel
theorem j_Model_isField_16 : mz_t 16 4 = 20 ∧ (0 ≤ ((16 : Nat) : Int) + 4) := by decide +kernel
theorem j_Model_isField : mz_t 1 18 = 19 ∧ (0 ≤ ((1 : Nat) : Int) + 18) ∧ mz_t 6 13 = 19 ∧ (0 ≤ ((6 : Nat) : Int) + 13) ∧ mz_t 12 7 = 19 ∧ (0 ≤ ((12 : Nat) : Int) + 7) ∧ mz_t 16 4 = 20 ∧ (0 ≤ ((16 : Nat) : Int) + 4) := by decide +kernel
theorem j_Model_isSorted_14 : mz_t 14 46 = 60 ∧ (0 ≤ ((14 : Nat) : Int) + 46) := by decide +kernel
theorem j_Model_isSorted_19 : mz_t 19 32 = 51 ∧ (0 ≤ ((19 : Nat) : Int) + 32) := by decide +kernel
theorem j_Model_isSorted_44 : mz_t 44 7 = 51 ∧ (0 ≤ ((44 : Nat) : Int) + 7) := by decide +kernel
theorem j_Model_isSorted_48 : mz_t 48 4 = 52 ∧ (0 ≤ ((48 : Nat) : Int) + 4) := by decide +kernel
theorem j_Model_isSorted_57 : mz_t 57 (-51) = 6 ∧ (0 ≤ ((57 : Nat) : Int) + (-51)) := by decide +kernel
theorem j_Model_isSorted : mz_t 14 46 = 60 ∧ (0 ≤ ((14 : Nat) : Int) + 46) ∧ mz_t 19 32 = 51 ∧ (0 ≤ ((19 : Nat) : Int) + 32) ∧ mz_t 44 7 = 51 ∧ (0 ≤ ((44 : Nat) : Int) + 7) ∧ mz_t 48 4 = 52 ∧ (0 ≤ ((48 : Nat) : Int) + 4) ∧ mz_t 57 (-51) = 6 ∧ (0 ≤ ((57 : Nat) : Int) + (-51)) := by decide +kernel
theorem j_Model_compare_7 : mz_t 7 48 = 55 ∧ (0 ≤ ((7 : Nat) : Int) + 48) := by decide +kernel
theorem j_Model_compare_24 : mz_t 24 25 = 49 ∧ (0 ≤ ((24 : Nat) : Int) + 25) := by decide +kernel
theorem j_Model_compare_52 : mz_t 52 (-49) = 3 ∧ (0 ≤ ((52 : Nat) : Int) + (-49)) := by decide +kernel
theorem j_Model_compare : mz_t 7 48 = 55 ∧ (0 ≤ ((7 : Nat) : Int) + 48) ∧ mz_t 24 25 = 49 ∧ (0 ≤ ((24 : Nat) : Int) + 25) ∧ mz_t 52 (-49) = 3 ∧ (0 ≤ ((52 : Nat) : Int) + (-49)) := by decide +kernel
theorem j_Model_putIn_5 : mz_t 5 37 = 42 ∧ (0 ≤ ((5 : Nat) : Int) + 37) := by decide +kernel
theorem j_Model_putIn_23 : mz_t 23 19 = 42 ∧ (0 ≤ ((23 : Nat) : Int) + 19) := by decide +kernel
theorem j_Model_putIn_39 : mz_t 39 (-36) = 3 ∧ (0 ≤ ((39 : Nat) : Int) + (-36)) := by decide +kernel
theorem j_Model_putIn : mz_t 5 37 = 42 ∧ (0 ≤ ((5 : Nat) : Int) + 37) ∧ mz_t 23 19 = 42 ∧ (0 ≤ ((23 : Nat) : Int) + 19) ∧ mz_t 39 (-36) = 3 ∧ (0 ≤ ((39 : Nat) : Int) + (-36)) := by decide +kernel
theorem j_Model_merge_4 : mz_t 4 28 = 32 ∧ (0 ≤ ((4 : Nat) : Int) + 28) := by decide +kernel
theorem j_Model_merge_11 : mz_t 11 21 = 32 ∧ (0 ≤ ((11 : Nat) : Int) + 21) := by decide +kernel
theorem j_Model_merge_16 : mz_t 16 16 = 32 ∧ (0 ≤ ((16 : Nat) : Int) + 16) := by decide +kernel
theorem j_Model_merge_25 : mz_t 25 7 = 32 ∧ (0 ≤ ((25 : Nat) : Int) + 7) := by decide +kernel
theorem j_Model_merge_29 : mz_t 29 4 = 33 ∧ (0 ≤ ((29 : Nat) : Int) + 4) := by decide +kernel
theorem j_Model_merge_38 : mz_t 38 7 = 45 ∧ (0 ≤ ((38 : Nat) : Int) + 7) := by decide +kernel
theorem j_Model_merge_42 : mz_t 42 30 = 72 ∧ (0 ≤ ((42 : Nat) : Int) + 30) := by decide +kernel
theorem j_Model_merge_53 : mz_t 53 14 = 67 ∧ (0 ≤ ((53 : Nat) : Int) + 14) := by decide +kernel
theorem j_Model_merge_64 : mz_t 64 7 = 71 ∧ (0 ≤ ((64 : Nat) : Int) + 7) := by decide +kernel
theorem j_Model_merge_68 : mz_t 68 4 = 72 ∧ (0 ≤ ((68 : Nat) : Int) + 4) := by decide +kernel
theorem j_Model_merge_79 : mz_t 79 5 = 84 ∧ (0 ≤ ((79 : Nat) : Int) + 5) := by decide +kernel
theorem j_Model_merge_95 : mz_t 95 24 = 119 ∧ (0 ≤ ((95 : Nat) : Int) + 24) := by decide +kernel
theorem j_Model_merge_116 : mz_t 116 (-29) = 87 ∧ (0 ≤ ((116 : Nat) : Int) + (-29)) := by decide +kernel
theorem j_Model_merge_138 : mz_t 138 32 = 170 ∧ (0 ≤ ((138 : Nat) : Int) + 32) := by decide +kernel
theorem j_Model_merge_167 : mz_t 167 (-37) = 130 ∧ (0 ≤ ((167 : Nat) : Int) + (-37)) := by decide +kernel
theorem j_Model_merge_177 : mz_t 177 29 = 206 ∧ (0 ≤ ((177 : Nat) : Int) + 29) := by decide +kernel
theorem j_Model_merge_203 : mz_t 203 (-30) = 173 ∧ (0 ≤ ((203 : Nat) : Int) + (-30)) := by decide +kernel
theorem j_Model_merge : mz_t 4 28 = 32 ∧ (0 ≤ ((4 : Nat) : Int) + 28) ∧ mz_t 11 21 = 32 ∧ (0 ≤ ((11 : Nat) : Int) + 21) ∧ mz_t 16 16 = 32 ∧ (0 ≤ ((16 : Nat) : Int) + 16) ∧ mz_t 25 7 = 32 ∧ (0 ≤ ((25 : Nat) : Int) + 7) ∧ mz_t 29 4 = 33 ∧ (0 ≤ ((29 : Nat) : Int) + 4) ∧ mz_t 38 7 = 45 ∧ (0 ≤ ((38 : Nat) : Int) + 7) ∧ mz_t 42 30 = 72 ∧ (0 ≤ ((42 : Nat) : Int) + 30) ∧ mz_t 53 14 = 67 ∧ (0 ≤ ((53 : Nat) : Int) + 14) ∧ mz_t 64 7 = 71 ∧ (0 ≤ ((64 : Nat) : Int) + 7) ∧ mz_t 68 4 = 72 ∧ (0 ≤ ((68 : Nat) : Int) + 4) ∧ mz_t 79 5 = 84 ∧ (0 ≤ ((79 : Nat) : Int) + 5) ∧ mz_t 95 24 = 119 ∧ (0 ≤ ((95 : Nat) : Int) + 24) ∧ mz_t 116 (-29) = 87 ∧ (0 ≤ ((116 : Nat) : Int) + (-29)) ∧ mz_t 138 32 = 170 ∧ (0 ≤ ((138 : Nat) : Int) + 32) ∧ mz_t 167 (-37) = 130 ∧ (0 ≤ ((167 : Nat) : Int) + (-37)) ∧ mz_t 177 29 = 206 ∧ (0 ≤ ((177 : Nat) : Int) + 29) ∧ mz_t 203 (-30) = 173 ∧ (0 ≤ ((203 : Nat) : Int) + (-30)) := by decide +kernel
theorem j_Model_match_4 : mz_t 4 46 = 50 ∧ (0 ≤ ((4 : Nat) : Int) + 46) := by decide +kernel
theorem j_Model_match_11 : mz_t 11 39 = 50 ∧ (0 ≤ ((11 : Nat) : Int) + 39) := by decide +kernel
theorem j_Model_match_18 : mz_t 18 32 = 50 ∧ (0 ≤ ((18 : Nat) : Int) + 32) := by decide +kernel
theorem j_Model_match_23 : mz_t 23 27 = 50 ∧ (0 ≤ ((23 : Nat) : Int) + 27) := by decide +kernel
theorem j_Model_match_28 : mz_t 28 22 = 50 ∧ (0 ≤ ((28 : Nat) : Int) + 22) := by decide +kernel
theorem j_Model_match_33 : mz_t 33 17 = 50 ∧ (0 ≤ ((33 : Nat) : Int) + 17) := by decide +kernel
theorem j_Model_match_43 : mz_t 43 7 = 50 ∧ (0 ≤ ((43 : Nat) : Int) + 7) := by decide +kernel
theorem j_Model_match_47 : mz_t 47 4 = 51 ∧ (0 ≤ ((47 : Nat) : Int) + 4) := by decide +kernel
theorem j_Model_match_56 : mz_t 56 7 = 63 ∧ (0 ≤ ((56 : Nat) : Int) + 7) := by decide +kernel
theorem j_Model_match_60 : mz_t 60 32 = 92 ∧ (0 ≤ ((60 : Nat) : Int) + 32) := by decide +kernel
theorem j_Model_match_72 : mz_t 72 15 = 87 ∧ (0 ≤ ((72 : Nat) : Int) + 15) := by decide +kernel
theorem j_Model_match_84 : mz_t 84 7 = 91 ∧ (0 ≤ ((84 : Nat) : Int) + 7) := by decide +kernel
theorem j_Model_match_88 : mz_t 88 4 = 92 ∧ (0 ≤ ((88 : Nat) : Int) + 4) := by decide +kernel
theorem j_Model_match_99 : mz_t 99 5 = 104 ∧ (0 ≤ ((99 : Nat) : Int) + 5) := by decide +kernel
theorem j_Model_match_160 : mz_t 160 21 = 181 ∧ (0 ≤ ((160 : Nat) : Int) + 21) := by decide +kernel
theorem j_Model_match_178 : mz_t 178 (-22) = 156 ∧ (0 ≤ ((178 : Nat) : Int) + (-22)) := by decide +kernel
theorem j_Model_match : mz_t 4 46 = 50 ∧ (0 ≤ ((4 : Nat) : Int) + 46) ∧ mz_t 11 39 = 50 ∧ (0 ≤ ((11 : Nat) : Int) + 39) ∧ mz_t 18 32 = 50 ∧ (0 ≤ ((18 : Nat) : Int) + 32) ∧ mz_t 23 27 = 50 ∧ (0 ≤ ((23 : Nat) : Int) + 27) ∧ mz_t 28 22 = 50 ∧ (0 ≤ ((28 : Nat) : Int) + 22) ∧ mz_t 33 17 = 50 ∧ (0 ≤ ((33 : Nat) : Int) + 17) ∧ mz_t 43 7 = 50 ∧ (0 ≤ ((43 : Nat) : Int) + 7) ∧ mz_t 47 4 = 51 ∧ (0 ≤ ((47 : Nat) : Int) + 4) ∧ mz_t 56 7 = 63 ∧ (0 ≤ ((56 : Nat) : Int) + 7) ∧ mz_t 60 32 = 92 ∧ (0 ≤ ((60 : Nat) : Int) + 32) ∧ mz_t 72 15 = 87 ∧ (0 ≤ ((72 : Nat) : Int) + 15) ∧ mz_t 84 7 = 91 ∧ (0 ≤ ((84 : Nat) : Int) + 7) ∧ mz_t 88 4 = 92 ∧ (0 ≤ ((88 : Nat) : Int) + 4) ∧ mz_t 99 5 = 104 ∧ (0 ≤ ((99 : Nat) : Int) + 5) ∧ mz_t 160 21 = 181 ∧ (0 ≤ ((160 : Nat) : Int) + 21) ∧ mz_t 178 (-22) = 156 ∧ (0 ≤ ((178 : Nat) : Int) + (-22)) := by decide +kernel
theorem j_Model_take_15 : mz_t 15 50 = 65 ∧ (0 ≤ ((15 : Nat) : Int) + 50) := by decide +kernel
theorem j_Model_take_33 : mz_t 33 26 = 59 ∧ (0 ≤ ((33 : Nat) : Int) + 26) := by decide +kernel
theorem j_Model_take_62 : mz_t 62 (-55) = 7 ∧ (0 ≤ ((62 : Nat) : Int) + (-55)) := by decide +kernel
theorem j_Model_take : mz_t 15 50 = 65 ∧ (0 ≤ ((15 : Nat) : Int) + 50) ∧ mz_t 33 26 = 59 ∧ (0 ≤ ((33 : Nat) : Int) + 26) ∧ mz_t 62 (-55) = 7 ∧ (0 ≤ ((62 : Nat) : Int) + (-55)) := by decide +kernel
theorem j_Model_hasKey_14 : mz_t 14 39 = 53 ∧ (0 ≤ ((14 : Nat) : Int) + 39) := by decide +kernel
theorem j_Model_hasKey_19 : mz_t 19 21 = 40 ∧ (0 ≤ ((19 : Nat) : Int) + 21) := by decide +kernel
theorem j_Model_hasKey_37 : mz_t 37 7 = 44 ∧ (0 ≤ ((37 : Nat) : Int) + 7) := by decide +kernel
theorem j_Model_hasKey_41 : mz_t 41 4 = 45 ∧ (0 ≤ ((41 : Nat) : Int) + 4) := by decide +kernel
theorem j_Model_hasKey_50 : mz_t 50 (-44) = 6 ∧ (0 ≤ ((50 : Nat) : Int) + (-44)) := by decide +kernel
theorem j_Model_hasKey : mz_t 14 39 = 53 ∧ (0 ≤ ((14 : Nat) : Int) + 39) ∧ mz_t 19 21 = 40 ∧ (0 ≤ ((19 : Nat) : Int) + 21) ∧ mz_t 37 7 = 44 ∧ (0 ≤ ((37 : Nat) : Int) + 7) ∧ mz_t 41 4 = 45 ∧ (0 ≤ ((41 : Nat) : Int) + 4) ∧ mz_t 50 (-44) = 6 ∧ (0 ≤ ((50 : Nat) : Int) + (-44)) := by decide +kernel
theorem j_Model_leave_14 : mz_t 14 79 = 93 ∧ (0 ≤ ((14 : Nat) : Int) + 79) := by decide +kernel
theorem j_Model_leave_26 : mz_t 26 38 = 64 ∧ (0 ≤ ((26 : Nat) : Int) + 38) := by decide +kernel
theorem j_Model_leave_31 : mz_t 31 20 = 51 ∧ (0 ≤ ((31 : Nat) : Int) + 20) := by decide +kernel
theorem j_Model_leave_48 : mz_t 48 7 = 55 ∧ (0 ≤ ((48 : Nat) : Int) + 7) := by decide +kernel
theorem j_Model_leave_52 : mz_t 52 4 = 56 ∧ (0 ≤ ((52 : Nat) : Int) + 4) := by decide +kernel
theorem j_Model_leave_61 : mz_t 61 (-38) = 23 ∧ (0 ≤ ((61 : Nat) : Int) + (-38)) := by decide +kernel
theorem j_Model_leave_66 : mz_t 66 21 = 87 ∧ (0 ≤ ((66 : Nat) : Int) + 21) := by decide +kernel
theorem j_Model_leave_90 : mz_t 90 (-84) = 6 ∧ (0 ≤ ((90 : Nat) : Int) + (-84)) := by decide +kernel
theorem j_Model_leave_108 : mz_t 108 29 = 137 ∧ (0 ≤ ((108 : Nat) : Int) + 29) := by decide +kernel
theorem j_Model_leave_134 : mz_t 134 (-30) = 104 ∧ (0 ≤ ((134 : Nat) : Int) + (-30)) := by decide +kernel
theorem j_Model_leave : mz_t 14 79 = 93 ∧ (0 ≤ ((14 : Nat) : Int) + 79) ∧ mz_t 26 38 = 64 ∧ (0 ≤ ((26 : Nat) : Int) + 38) ∧ mz_t 31 20 = 51 ∧ (0 ≤ ((31 : Nat) : Int) + 20) ∧ mz_t 48 7 = 55 ∧ (0 ≤ ((48 : Nat) : Int) + 7) ∧ mz_t 52 4 = 56 ∧ (0 ≤ ((52 : Nat) : Int) + 4) ∧ mz_t 61 (-38) = 23 ∧ (0 ≤ ((61 : Nat) : Int) + (-38)) ∧ mz_t 66 21 = 87 ∧ (0 ≤ ((66 : Nat) : Int) + 21) ∧ mz_t 90 (-84) = 6 ∧ (0 ≤ ((90 : Nat) : Int) + (-84)) ∧ mz_t 108 29 = 137 ∧ (0 ≤ ((108 : Nat) : Int) + 29) ∧ mz_t 134 (-30) = 104 ∧ (0 ≤ ((134 : Nat) : Int) + (-30)) := by decide +kernel
theorem j_Model_reproduce_5 : mz_t 5 26 = 31 ∧ (0 ≤ ((5 : Nat) : Int) + 26) := by decide +kernel
theorem j_Model_reproduce_12 : mz_t 12 19 = 31 ∧ (0 ≤ ((12 : Nat) : Int) + 19) := by decide +kernel
theorem j_Model_reproduce_19 : mz_t 19 12 = 31 ∧ (0 ≤ ((19 : Nat) : Int) + 12) := by decide +kernel
theorem j_Model_reproduce_24 : mz_t 24 7 = 31 ∧ (0 ≤ ((24 : Nat) : Int) + 7) := by decide +kernel
theorem j_Model_reproduce_28 : mz_t 28 4 = 32 ∧ (0 ≤ ((28 : Nat) : Int) + 4) := by decide +kernel
theorem j_Model_reproduce_39 : mz_t 39 5 = 44 ∧ (0 ≤ ((39 : Nat) : Int) + 5) := by decide +kernel
theorem j_Model_reproduce_55 : mz_t 55 162 = 217 ∧ (0 ≤ ((55 : Nat) : Int) + 162) := by decide +kernel
theorem j_Model_reproduce_68 : mz_t 68 40 = 108 ∧ (0 ≤ ((68 : Nat) : Int) + 40) := by decide +kernel
theorem j_Model_reproduce_73 : mz_t 73 22 = 95 ∧ (0 ≤ ((73 : Nat) : Int) + 22) := by decide +kernel
theorem j_Model_reproduce_92 : mz_t 92 7 = 99 ∧ (0 ≤ ((92 : Nat) : Int) + 7) := by decide +kernel
theorem j_Model_reproduce_96 : mz_t 96 4 = 100 ∧ (0 ≤ ((96 : Nat) : Int) + 4) := by decide +kernel
theorem j_Model_reproduce_105 : mz_t 105 (-41) = 64 ∧ (0 ≤ ((105 : Nat) : Int) + (-41)) := by decide +kernel
theorem j_Model_reproduce_110 : mz_t 110 13 = 123 ∧ (0 ≤ ((110 : Nat) : Int) + 13) := by decide +kernel
theorem j_Model_reproduce_120 : mz_t 120 20 = 140 ∧ (0 ≤ ((120 : Nat) : Int) + 20) := by decide +kernel
theorem j_Model_reproduce_126 : mz_t 126 7 = 133 ∧ (0 ≤ ((126 : Nat) : Int) + 7) := by decide +kernel
theorem j_Model_reproduce_130 : mz_t 130 4 = 134 ∧ (0 ≤ ((130 : Nat) : Int) + 4) := by decide +kernel
theorem j_Model_reproduce_153 : mz_t 153 51 = 204 ∧ (0 ≤ ((153 : Nat) : Int) + 51) := by decide +kernel
theorem j_Model_reproduce_186 : mz_t 186 8 = 194 ∧ (0 ≤ ((186 : Nat) : Int) + 8) := by decide +kernel
theorem j_Model_reproduce_191 : mz_t 191 5 = 196 ∧ (0 ≤ ((191 : Nat) : Int) + 5) := by decide +kernel
theorem j_Model_reproduce_201 : mz_t 201 (-52) = 149 ∧ (0 ≤ ((201 : Nat) : Int) + (-52)) := by decide +kernel
theorem j_Model_reproduce_214 : mz_t 214 (-167) = 47 ∧ (0 ≤ ((214 : Nat) : Int) + (-167)) := by decide +kernel
theorem j_Model_reproduce : mz_t 5 26 = 31 ∧ (0 ≤ ((5 : Nat) : Int) + 26) ∧ mz_t 12 19 = 31 ∧ (0 ≤ ((12 : Nat) : Int) + 19) ∧ mz_t 19 12 = 31 ∧ (0 ≤ ((19 : Nat) : Int) + 12) ∧ mz_t 24 7 = 31 ∧ (0 ≤ ((24 : Nat) : Int) + 7) ∧ mz_t 28 4 = 32 ∧ (0 ≤ ((28 : Nat) : Int) + 4) ∧ mz_t 39 5 = 44 ∧ (0 ≤ ((39 : Nat) : Int) + 5) ∧ mz_t 55 162 = 217 ∧ (0 ≤ ((55 : Nat) : Int) + 162) ∧ mz_t 68 40 = 108 ∧ (0 ≤ ((68 : Nat) : Int) + 40) ∧ mz_t 73 22 = 95 ∧ (0 ≤ ((73 : Nat) : Int) + 22) ∧ mz_t 92 7 = 99 ∧ (0 ≤ ((92 : Nat) : Int) + 7) ∧ mz_t 96 4 = 100 ∧ (0 ≤ ((96 : Nat) : Int) + 4) ∧ mz_t 105 (-41) = 64 ∧ (0 ≤ ((105 : Nat) : Int) + (-41)) ∧ mz_t 110 13 = 123 ∧ (0 ≤ ((110 : Nat) : Int) + 13) ∧ mz_t 120 20 = 140 ∧ (0 ≤ ((120 : Nat) : Int) + 20) ∧ mz_t 126 7 = 133 ∧ (0 ≤ ((126 : Nat) : Int) + 7) ∧ mz_t 130 4 = 134 ∧ (0 ≤ ((130 : Nat) : Int) + 4) ∧ mz_t 153 51 = 204 ∧ (0 ≤ ((153 : Nat) : Int) + 51) ∧ mz_t 186 8 = 194 ∧ (0 ≤ ((186 : Nat) : Int) + 8) ∧ mz_t 191 5 = 196 ∧ (0 ≤ ((191 : Nat) : Int) + 5) ∧ mz_t 201 (-52) = 149 ∧ (0 ≤ ((201 : Nat) : Int) + (-52)) ∧ mz_t 214 (-167) = 47 ∧ (0 ≤ ((214 : Nat) : Int) + (-167)) := by decide +kernel
theorem j_Model_arrives_22 : mz_t 22 65 = 87 ∧ (0 ≤ ((22 : Nat) : Int) + 65) := by decide +kernel
theorem j_Model_arrives_33 : mz_t 33 13 = 46 ∧ (0 ≤ ((33 : Nat) : Int) + 13) := by decide +kernel
theorem j_Model_arrives_43 : mz_t 43 4 = 47 ∧ (0 ≤ ((43 : Nat) : Int) + 4) := by decide +kernel
theorem j_Model_arrives_51 : mz_t 51 10 = 61 ∧ (0 ≤ ((51 : Nat) : Int) + 10) := by decide +kernel
theorem j_Model_arrives_58 : mz_t 58 8 = 66 ∧ (0 ≤ ((58 : Nat) : Int) + 8) := by decide +kernel
theorem j_Model_arrives_63 : mz_t 63 16 = 79 ∧ (0 ≤ ((63 : Nat) : Int) + 16) := by decide +kernel
theorem j_Model_arrives_69 : mz_t 69 8 = 77 ∧ (0 ≤ ((69 : Nat) : Int) + 8) := by decide +kernel
theorem j_Model_arrives_74 : mz_t 74 5 = 79 ∧ (0 ≤ ((74 : Nat) : Int) + 5) := by decide +kernel
theorem j_Model_arrives_84 : mz_t 84 (-75) = 9 ∧ (0 ≤ ((84 : Nat) : Int) + (-75)) := by decide +kernel
theorem j_Model_arrives : mz_t 22 65 = 87 ∧ (0 ≤ ((22 : Nat) : Int) + 65) ∧ mz_t 33 13 = 46 ∧ (0 ≤ ((33 : Nat) : Int) + 13) ∧ mz_t 43 4 = 47 ∧ (0 ≤ ((43 : Nat) : Int) + 4) ∧ mz_t 51 10 = 61 ∧ (0 ≤ ((51 : Nat) : Int) + 10) ∧ mz_t 58 8 = 66 ∧ (0 ≤ ((58 : Nat) : Int) + 8) ∧ mz_t 63 16 = 79 ∧ (0 ≤ ((63 : Nat) : Int) + 16) ∧ mz_t 69 8 = 77 ∧ (0 ≤ ((69 : Nat) : Int) + 8) ∧ mz_t 74 5 = 79 ∧ (0 ≤ ((74 : Nat) : Int) + 5) ∧ mz_t 84 (-75) = 9 ∧ (0 ≤ ((84 : Nat) : Int) + (-75)) := by decide +kernel
theorem j_Model_brings_10 : mz_t 10 20 = 30 ∧ (0 ≤ ((10 : Nat) : Int) + 20) := by decide +kernel
theorem j_Model_brings_14 : mz_t 14 7 = 21 ∧ (0 ≤ ((14 : Nat) : Int) + 7) := by decide +kernel
theorem j_Model_brings_18 : mz_t 18 26 = 44 ∧ (0 ≤ ((18 : Nat) : Int) + 26) := by decide +kernel
theorem j_Model_brings_27 : mz_t 27 17 = 44 ∧ (0 ≤ ((27 : Nat) : Int) + 17) := by decide +kernel
theorem j_Model_brings_33 : mz_t 33 10 = 43 ∧ (0 ≤ ((33 : Nat) : Int) + 10) := by decide +kernel
theorem j_Model_brings_40 : mz_t 40 4 = 44 ∧ (0 ≤ ((40 : Nat) : Int) + 4) := by decide +kernel
theorem j_Model_brings : mz_t 10 20 = 30 ∧ (0 ≤ ((10 : Nat) : Int) + 20) ∧ mz_t 14 7 = 21 ∧ (0 ≤ ((14 : Nat) : Int) + 7) ∧ mz_t 18 26 = 44 ∧ (0 ≤ ((18 : Nat) : Int) + 26) ∧ mz_t 27 17 = 44 ∧ (0 ≤ ((27 : Nat) : Int) + 17) ∧ mz_t 33 10 = 43 ∧ (0 ≤ ((33 : Nat) : Int) + 10) ∧ mz_t 40 4 = 44 ∧ (0 ≤ ((40 : Nat) : Int) + 4) := by decide +kernel
theorem j_Model_gang_5 : mz_t 5 21 = 26 ∧ (0 ≤ ((5 : Nat) : Int) + 21) := by decide +kernel
theorem j_Model_gang_12 : mz_t 12 14 = 26 ∧ (0 ≤ ((12 : Nat) : Int) + 14) := by decide +kernel
theorem j_Model_gang_19 : mz_t 19 7 = 26 ∧ (0 ≤ ((19 : Nat) : Int) + 7) := by decide +kernel
theorem j_Model_gang_23 : mz_t 23 4 = 27 ∧ (0 ≤ ((23 : Nat) : Int) + 4) := by decide +kernel
theorem j_Model_gang_34 : mz_t 34 5 = 39 ∧ (0 ≤ ((34 : Nat) : Int) + 5) := by decide +kernel
theorem j_Model_gang_53 : mz_t 53 133 = 186 ∧ (0 ≤ ((53 : Nat) : Int) + 133) := by decide +kernel
theorem j_Model_gang_76 : mz_t 76 10 = 86 ∧ (0 ≤ ((76 : Nat) : Int) + 10) := by decide +kernel
theorem j_Model_gang_83 : mz_t 83 97 = 180 ∧ (0 ≤ ((83 : Nat) : Int) + 97) := by decide +kernel
theorem j_Model_gang_88 : mz_t 88 92 = 180 ∧ (0 ≤ ((88 : Nat) : Int) + 92) := by decide +kernel
theorem j_Model_gang_104 : mz_t 104 12 = 116 ∧ (0 ≤ ((104 : Nat) : Int) + 12) := by decide +kernel
theorem j_Model_gang_123 : mz_t 123 57 = 180 ∧ (0 ≤ ((123 : Nat) : Int) + 57) := by decide +kernel
theorem j_Model_gang_151 : mz_t 151 19 = 170 ∧ (0 ≤ ((151 : Nat) : Int) + 19) := by decide +kernel
theorem j_Model_gang_167 : mz_t 167 6 = 173 ∧ (0 ≤ ((167 : Nat) : Int) + 6) := by decide +kernel
theorem j_Model_gang_177 : mz_t 177 (-58) = 119 ∧ (0 ≤ ((177 : Nat) : Int) + (-58)) := by decide +kernel
theorem j_Model_gang_183 : mz_t 183 (-138) = 45 ∧ (0 ≤ ((183 : Nat) : Int) + (-138)) := by decide +kernel
theorem j_Model_gang : mz_t 5 21 = 26 ∧ (0 ≤ ((5 : Nat) : Int) + 21) ∧ mz_t 12 14 = 26 ∧ (0 ≤ ((12 : Nat) : Int) + 14) ∧ mz_t 19 7 = 26 ∧ (0 ≤ ((19 : Nat) : Int) + 7) ∧ mz_t 23 4 = 27 ∧ (0 ≤ ((23 : Nat) : Int) + 4) ∧ mz_t 34 5 = 39 ∧ (0 ≤ ((34 : Nat) : Int) + 5) ∧ mz_t 53 133 = 186 ∧ (0 ≤ ((53 : Nat) : Int) + 133) ∧ mz_t 76 10 = 86 ∧ (0 ≤ ((76 : Nat) : Int) + 10) ∧ mz_t 83 97 = 180 ∧ (0 ≤ ((83 : Nat) : Int) + 97) ∧ mz_t 88 92 = 180 ∧ (0 ≤ ((88 : Nat) : Int) + 92) ∧ mz_t 104 12 = 116 ∧ (0 ≤ ((104 : Nat) : Int) + 12) ∧ mz_t 123 57 = 180 ∧ (0 ≤ ((123 : Nat) : Int) + 57) ∧ mz_t 151 19 = 170 ∧ (0 ≤ ((151 : Nat) : Int) + 19) ∧ mz_t 167 6 = 173 ∧ (0 ≤ ((167 : Nat) : Int) + 6) ∧ mz_t 177 (-58) = 119 ∧ (0 ≤ ((177 : Nat) : Int) + (-58)) ∧ mz_t 183 (-138) = 45 ∧ (0 ≤ ((183 : Nat) : Int) + (-138)) := by decide +kernel
theorem j_Model_faultOfGang_25 : mz_t 25 105 = 130 ∧ (0 ≤ ((25 : Nat) : Int) + 105) := by decide +kernel
theorem j_Model_faultOfGang_46 : mz_t 46 78 = 124 ∧ (0 ≤ ((46 : Nat) : Int) + 78) := by decide +kernel
theorem j_Model_faultOfGang_51 : mz_t 51 73 = 124 ∧ (0 ≤ ((51 : Nat) : Int) + 73) := by decide +kernel
theorem j_Model_faultOfGang_70 : mz_t 70 17 = 87 ∧ (0 ≤ ((70 : Nat) : Int) + 17) := by decide +kernel
theorem j_Model_faultOfGang_77 : mz_t 77 14 = 91 ∧ (0 ≤ ((77 : Nat) : Int) + 14) := by decide +kernel
theorem j_Model_faultOfGang_84 : mz_t 84 7 = 91 ∧ (0 ≤ ((84 : Nat) : Int) + 7) := by decide +kernel
theorem j_Model_faultOfGang_88 : mz_t 88 4 = 92 ∧ (0 ≤ ((88 : Nat) : Int) + 4) := by decide +kernel
theorem j_Model_faultOfGang_96 : mz_t 96 21 = 117 ∧ (0 ≤ ((96 : Nat) : Int) + 21) := by decide +kernel
theorem j_Model_faultOfGang_114 : mz_t 114 7 = 121 ∧ (0 ≤ ((114 : Nat) : Int) + 7) := by decide +kernel
theorem j_Model_faultOfGang_118 : mz_t 118 4 = 122 ∧ (0 ≤ ((118 : Nat) : Int) + 4) := by decide +kernel
theorem j_Model_faultOfGang_127 : mz_t 127 (-115) = 12 ∧ (0 ≤ ((127 : Nat) : Int) + (-115)) := by decide +kernel
theorem j_Model_faultOfGang_132 : mz_t 132 7 = 139 ∧ (0 ≤ ((132 : Nat) : Int) + 7) := by decide +kernel
theorem j_Model_faultOfGang_136 : mz_t 136 13 = 149 ∧ (0 ≤ ((136 : Nat) : Int) + 13) := by decide +kernel
theorem j_Model_faultOfGang_141 : mz_t 141 7 = 148 ∧ (0 ≤ ((141 : Nat) : Int) + 7) := by decide +kernel
theorem j_Model_faultOfGang_145 : mz_t 145 4 = 149 ∧ (0 ≤ ((145 : Nat) : Int) + 4) := by decide +kernel
theorem j_Model_faultOfGang : mz_t 25 105 = 130 ∧ (0 ≤ ((25 : Nat) : Int) + 105) ∧ mz_t 46 78 = 124 ∧ (0 ≤ ((46 : Nat) : Int) + 78) ∧ mz_t 51 73 = 124 ∧ (0 ≤ ((51 : Nat) : Int) + 73) ∧ mz_t 70 17 = 87 ∧ (0 ≤ ((70 : Nat) : Int) + 17) ∧ mz_t 77 14 = 91 ∧ (0 ≤ ((77 : Nat) : Int) + 14) ∧ mz_t 84 7 = 91 ∧ (0 ≤ ((84 : Nat) : Int) + 7) ∧ mz_t 88 4 = 92 ∧ (0 ≤ ((88 : Nat) : Int) + 4) ∧ mz_t 96 21 = 117 ∧ (0 ≤ ((96 : Nat) : Int) + 21) ∧ mz_t 114 7 = 121 ∧ (0 ≤ ((114 : Nat) : Int) + 7) ∧ mz_t 118 4 = 122 ∧ (0 ≤ ((118 : Nat) : Int) + 4) ∧ mz_t 127 (-115) = 12 ∧ (0 ≤ ((127 : Nat) : Int) + (-115)) ∧ mz_t 132 7 = 139 ∧ (0 ≤ ((132 : Nat) : Int) + 7) ∧ mz_t 136 13 = 149 ∧ (0 ≤ ((136 : Nat) : Int) + 13) ∧ mz_t 141 7 = 148 ∧ (0 ≤ ((141 : Nat) : Int) + 7) ∧ mz_t 145 4 = 149 ∧ (0 ≤ ((145 : Nat) : Int) + 4) := by decide +kernel
theorem j_Model_multiply_4 : mz_t 4 47 = 51 ∧ (0 ≤ ((4 : Nat) : Int) + 47) := by decide +kernel
theorem j_Model_multiply_11 : mz_t 11 40 = 51 ∧ (0 ≤ ((11 : Nat) : Int) + 40) := by decide +kernel
theorem j_Model_multiply_18 : mz_t 18 33 = 51 ∧ (0 ≤ ((18 : Nat) : Int) + 33) := by decide +kernel
theorem j_Model_multiply_26 : mz_t 26 25 = 51 ∧ (0 ≤ ((26 : Nat) : Int) + 25) := by decide +kernel
theorem j_Model_multiply_35 : mz_t 35 16 = 51 ∧ (0 ≤ ((35 : Nat) : Int) + 16) := by decide +kernel
theorem j_Model_multiply_44 : mz_t 44 7 = 51 ∧ (0 ≤ ((44 : Nat) : Int) + 7) := by decide +kernel
theorem j_Model_multiply_48 : mz_t 48 4 = 52 ∧ (0 ≤ ((48 : Nat) : Int) + 4) := by decide +kernel
theorem j_Model_multiply_57 : mz_t 57 7 = 64 ∧ (0 ≤ ((57 : Nat) : Int) + 7) := by decide +kernel
theorem j_Model_multiply_61 : mz_t 61 4 = 65 ∧ (0 ≤ ((61 : Nat) : Int) + 4) := by decide +kernel
theorem j_Model_multiply_70 : mz_t 70 5 = 75 ∧ (0 ≤ ((70 : Nat) : Int) + 5) := by decide +kernel
theorem j_Model_multiply_86 : mz_t 86 142 = 228 ∧ (0 ≤ ((86 : Nat) : Int) + 142) := by decide +kernel
theorem j_Model_multiply_118 : mz_t 118 8 = 126 ∧ (0 ≤ ((118 : Nat) : Int) + 8) := by decide +kernel
theorem j_Model_multiply_123 : mz_t 123 11 = 134 ∧ (0 ≤ ((123 : Nat) : Int) + 11) := by decide +kernel
theorem j_Model_multiply_164 : mz_t 164 7 = 171 ∧ (0 ≤ ((164 : Nat) : Int) + 7) := by decide +kernel
theorem j_Model_multiply_168 : mz_t 168 4 = 172 ∧ (0 ≤ ((168 : Nat) : Int) + 4) := by decide +kernel
theorem j_Model_multiply_176 : mz_t 176 11 = 187 ∧ (0 ≤ ((176 : Nat) : Int) + 11) := by decide +kernel
theorem j_Model_multiply_198 : mz_t 198 11 = 209 ∧ (0 ≤ ((198 : Nat) : Int) + 11) := by decide +kernel
theorem j_Model_multiply_225 : mz_t 225 (-147) = 78 ∧ (0 ≤ ((225 : Nat) : Int) + (-147)) := by decide +kernel
theorem j_Model_multiply : mz_t 4 47 = 51 ∧ (0 ≤ ((4 : Nat) : Int) + 47) ∧ mz_t 11 40 = 51 ∧ (0 ≤ ((11 : Nat) : Int) + 40) ∧ mz_t 18 33 = 51 ∧ (0 ≤ ((18 : Nat) : Int) + 33) ∧ mz_t 26 25 = 51 ∧ (0 ≤ ((26 : Nat) : Int) + 25) ∧ mz_t 35 16 = 51 ∧ (0 ≤ ((35 : Nat) : Int) + 16) ∧ mz_t 44 7 = 51 ∧ (0 ≤ ((44 : Nat) : Int) + 7) ∧ mz_t 48 4 = 52 ∧ (0 ≤ ((48 : Nat) : Int) + 4) ∧ mz_t 57 7 = 64 ∧ (0 ≤ ((57 : Nat) : Int) + 7) ∧ mz_t 61 4 = 65 ∧ (0 ≤ ((61 : Nat) : Int) + 4) ∧ mz_t 70 5 = 75 ∧ (0 ≤ ((70 : Nat) : Int) + 5) ∧ mz_t 86 142 = 228 ∧ (0 ≤ ((86 : Nat) : Int) + 142) ∧ mz_t 118 8 = 126 ∧ (0 ≤ ((118 : Nat) : Int) + 8) ∧ mz_t 123 11 = 134 ∧ (0 ≤ ((123 : Nat) : Int) + 11) ∧ mz_t 164 7 = 171 ∧ (0 ≤ ((164 : Nat) : Int) + 7) ∧ mz_t 168 4 = 172 ∧ (0 ≤ ((168 : Nat) : Int) + 4) ∧ mz_t 176 11 = 187 ∧ (0 ≤ ((176 : Nat) : Int) + 11) ∧ mz_t 198 11 = 209 ∧ (0 ≤ ((198 : Nat) : Int) + 11) ∧ mz_t 225 (-147) = 78 ∧ (0 ≤ ((225 : Nat) : Int) + (-147)) := by decide +kernel
theorem j_Model_isFactor_1 : mz_t 1 27 = 28 ∧ (0 ≤ ((1 : Nat) : Int) + 27) := by decide +kernel
theorem j_Model_isFactor_7 : mz_t 7 21 = 28 ∧ (0 ≤ ((7 : Nat) : Int) + 21) := by decide +kernel
theorem j_Model_isFactor_21 : mz_t 21 7 = 28 ∧ (0 ≤ ((21 : Nat) : Int) + 7) := by decide +kernel
theorem j_Model_isFactor_25 : mz_t 25 4 = 29 ∧ (0 ≤ ((25 : Nat) : Int) + 4) := by decide +kernel
theorem j_Model_isFactor : mz_t 1 27 = 28 ∧ (0 ≤ ((1 : Nat) : Int) + 27) ∧ mz_t 7 21 = 28 ∧ (0 ≤ ((7 : Nat) : Int) + 21) ∧ mz_t 21 7 = 28 ∧ (0 ≤ ((21 : Nat) : Int) + 7) ∧ mz_t 25 4 = 29 ∧ (0 ≤ ((25 : Nat) : Int) + 4) := by decide +kernel
theorem j_Model_meet_13 : mz_t 13 23 = 36 ∧ (0 ≤ ((13 : Nat) : Int) + 23) := by decide +kernel
theorem j_Model_meet_29 : mz_t 29 7 = 36 ∧ (0 ≤ ((29 : Nat) : Int) + 7) := by decide +kernel
theorem j_Model_meet_33 : mz_t 33 4 = 37 ∧ (0 ≤ ((33 : Nat) : Int) + 4) := by decide +kernel
theorem j_Model_meet : mz_t 13 23 = 36 ∧ (0 ≤ ((13 : Nat) : Int) + 23) ∧ mz_t 29 7 = 36 ∧ (0 ≤ ((29 : Nat) : Int) + 7) ∧ mz_t 33 4 = 37 ∧ (0 ≤ ((33 : Nat) : Int) + 4) := by decide +kernel
theorem j_Model_numberOf_19 : mz_t 19 68 = 87 ∧ (0 ≤ ((19 : Nat) : Int) + 68) := by decide +kernel
theorem j_Model_numberOf_35 : mz_t 35 7 = 42 ∧ (0 ≤ ((35 : Nat) : Int) + 7) := by decide +kernel
theorem j_Model_numberOf_39 : mz_t 39 19 = 58 ∧ (0 ≤ ((39 : Nat) : Int) + 19) := by decide +kernel
theorem j_Model_numberOf_46 : mz_t 46 11 = 57 ∧ (0 ≤ ((46 : Nat) : Int) + 11) := by decide +kernel
theorem j_Model_numberOf_54 : mz_t 54 4 = 58 ∧ (0 ≤ ((54 : Nat) : Int) + 4) := by decide +kernel
theorem j_Model_numberOf_61 : mz_t 61 8 = 69 ∧ (0 ≤ ((61 : Nat) : Int) + 8) := by decide +kernel
theorem j_Model_numberOf_66 : mz_t 66 7 = 73 ∧ (0 ≤ ((66 : Nat) : Int) + 7) := by decide +kernel
theorem j_Model_numberOf_70 : mz_t 70 10 = 80 ∧ (0 ≤ ((70 : Nat) : Int) + 10) := by decide +kernel
theorem j_Model_numberOf_84 : mz_t 84 (-76) = 8 ∧ (0 ≤ ((84 : Nat) : Int) + (-76)) := by decide +kernel
theorem j_Model_numberOf : mz_t 19 68 = 87 ∧ (0 ≤ ((19 : Nat) : Int) + 68) ∧ mz_t 35 7 = 42 ∧ (0 ≤ ((35 : Nat) : Int) + 7) ∧ mz_t 39 19 = 58 ∧ (0 ≤ ((39 : Nat) : Int) + 19) ∧ mz_t 46 11 = 57 ∧ (0 ≤ ((46 : Nat) : Int) + 11) ∧ mz_t 54 4 = 58 ∧ (0 ≤ ((54 : Nat) : Int) + 4) ∧ mz_t 61 8 = 69 ∧ (0 ≤ ((61 : Nat) : Int) + 8) ∧ mz_t 66 7 = 73 ∧ (0 ≤ ((66 : Nat) : Int) + 7) ∧ mz_t 70 10 = 80 ∧ (0 ≤ ((70 : Nat) : Int) + 10) ∧ mz_t 84 (-76) = 8 ∧ (0 ≤ ((84 : Nat) : Int) + (-76)) := by decide +kernel
theorem j_Model_tenTo_6 : mz_t 6 15 = 21 ∧ (0 ≤ ((6 : Nat) : Int) + 15) := by decide +kernel
theorem j_Model_tenTo_18 : mz_t 18 (-14) = 4 ∧ (0 ≤ ((18 : Nat) : Int) + (-14)) := by decide +kernel
theorem j_Model_tenTo : mz_t 6 15 = 21 ∧ (0 ≤ ((6 : Nat) : Int) + 15) ∧ mz_t 18 (-14) = 4 ∧ (0 ≤ ((18 : Nat) : Int) + (-14)) := by decide +kernel
theorem j_Model_punches_23 : mz_t 23 85 = 108 ∧ (0 ≤ ((23 : Nat) : Int) + 85) := by decide +kernel
theorem j_Model_punches_48 : mz_t 48 31 = 79 ∧ (0 ≤ ((48 : Nat) : Int) + 31) := by decide +kernel
theorem j_Model_punches_60 : mz_t 60 15 = 75 ∧ (0 ≤ ((60 : Nat) : Int) + 15) := by decide +kernel
theorem j_Model_punches_72 : mz_t 72 7 = 79 ∧ (0 ≤ ((72 : Nat) : Int) + 7) := by decide +kernel
theorem j_Model_punches_76 : mz_t 76 4 = 80 ∧ (0 ≤ ((76 : Nat) : Int) + 4) := by decide +kernel
theorem j_Model_punches_84 : mz_t 84 18 = 102 ∧ (0 ≤ ((84 : Nat) : Int) + 18) := by decide +kernel
theorem j_Model_punches_105 : mz_t 105 (-88) = 17 ∧ (0 ≤ ((105 : Nat) : Int) + (-88)) := by decide +kernel
theorem j_Model_punches : mz_t 23 85 = 108 ∧ (0 ≤ ((23 : Nat) : Int) + 85) ∧ mz_t 48 31 = 79 ∧ (0 ≤ ((48 : Nat) : Int) + 31) ∧ mz_t 60 15 = 75 ∧ (0 ≤ ((60 : Nat) : Int) + 15) ∧ mz_t 72 7 = 79 ∧ (0 ≤ ((72 : Nat) : Int) + 7) ∧ mz_t 76 4 = 80 ∧ (0 ≤ ((76 : Nat) : Int) + 4) ∧ mz_t 84 18 = 102 ∧ (0 ≤ ((84 : Nat) : Int) + 18) ∧ mz_t 105 (-88) = 17 ∧ (0 ≤ ((105 : Nat) : Int) + (-88)) := by decide +kernel
theorem j_Model_tabulate_5 : mz_t 5 14 = 19 ∧ (0 ≤ ((5 : Nat) : Int) + 14) := by decide +kernel
theorem j_Model_tabulate_12 : mz_t 12 7 = 19 ∧ (0 ≤ ((12 : Nat) : Int) + 7) := by decide +kernel
theorem j_Model_tabulate_16 : mz_t 16 4 = 20 ∧ (0 ≤ ((16 : Nat) : Int) + 4) := by decide +kernel
theorem j_Model_tabulate_27 : mz_t 27 5 = 32 ∧ (0 ≤ ((27 : Nat) : Int) + 5) := by decide +kernel
theorem j_Model_tabulate_36 : mz_t 36 16 = 52 ∧ (0 ≤ ((36 : Nat) : Int) + 16) := by decide +kernel
theorem j_Model_tabulate_49 : mz_t 49 (-15) = 34 ∧ (0 ≤ ((49 : Nat) : Int) + (-15)) := by decide +kernel
theorem j_Model_tabulate_65 : mz_t 65 113 = 178 ∧ (0 ≤ ((65 : Nat) : Int) + 113) := by decide +kernel
theorem j_Model_tabulate_77 : mz_t 77 51 = 128 ∧ (0 ≤ ((77 : Nat) : Int) + 51) := by decide +kernel
theorem j_Model_tabulate_82 : mz_t 82 46 = 128 ∧ (0 ≤ ((82 : Nat) : Int) + 46) := by decide +kernel
theorem j_Model_tabulate_108 : mz_t 108 10 = 118 ∧ (0 ≤ ((108 : Nat) : Int) + 10) := by decide +kernel
theorem j_Model_tabulate_115 : mz_t 115 5 = 120 ∧ (0 ≤ ((115 : Nat) : Int) + 5) := by decide +kernel
theorem j_Model_tabulate_125 : mz_t 125 (-51) = 74 ∧ (0 ≤ ((125 : Nat) : Int) + (-51)) := by decide +kernel
theorem j_Model_tabulate_146 : mz_t 146 12 = 158 ∧ (0 ≤ ((146 : Nat) : Int) + 12) := by decide +kernel
theorem j_Model_tabulate_175 : mz_t 175 (-113) = 62 ∧ (0 ≤ ((175 : Nat) : Int) + (-113)) := by decide +kernel
theorem j_Model_tabulate_179 : mz_t 179 11 = 190 ∧ (0 ≤ ((179 : Nat) : Int) + 11) := by decide +kernel
theorem j_Model_tabulate_187 : mz_t 187 4 = 191 ∧ (0 ≤ ((187 : Nat) : Int) + 4) := by decide +kernel
theorem j_Model_tabulate_195 : mz_t 195 11 = 206 ∧ (0 ≤ ((195 : Nat) : Int) + 11) := by decide +kernel
theorem j_Model_tabulate_212 : mz_t 212 20 = 232 ∧ (0 ≤ ((212 : Nat) : Int) + 20) := by decide +kernel
theorem j_Model_tabulate_216 : mz_t 216 16 = 232 ∧ (0 ≤ ((216 : Nat) : Int) + 16) := by decide +kernel
theorem j_Model_tabulate_229 : mz_t 229 (-20) = 209 ∧ (0 ≤ ((229 : Nat) : Int) + (-20)) := by decide +kernel
theorem j_Model_tabulate : mz_t 5 14 = 19 ∧ (0 ≤ ((5 : Nat) : Int) + 14) ∧ mz_t 12 7 = 19 ∧ (0 ≤ ((12 : Nat) : Int) + 7) ∧ mz_t 16 4 = 20 ∧ (0 ≤ ((16 : Nat) : Int) + 4) ∧ mz_t 27 5 = 32 ∧ (0 ≤ ((27 : Nat) : Int) + 5) ∧ mz_t 36 16 = 52 ∧ (0 ≤ ((36 : Nat) : Int) + 16) ∧ mz_t 49 (-15) = 34 ∧ (0 ≤ ((49 : Nat) : Int) + (-15)) ∧ mz_t 65 113 = 178 ∧ (0 ≤ ((65 : Nat) : Int) + 113) ∧ mz_t 77 51 = 128 ∧ (0 ≤ ((77 : Nat) : Int) + 51) ∧ mz_t 82 46 = 128 ∧ (0 ≤ ((82 : Nat) : Int) + 46) ∧ mz_t 108 10 = 118 ∧ (0 ≤ ((108 : Nat) : Int) + 10) ∧ mz_t 115 5 = 120 ∧ (0 ≤ ((115 : Nat) : Int) + 5) ∧ mz_t 125 (-51) = 74 ∧ (0 ≤ ((125 : Nat) : Int) + (-51)) ∧ mz_t 146 12 = 158 ∧ (0 ≤ ((146 : Nat) : Int) + 12) ∧ mz_t 175 (-113) = 62 ∧ (0 ≤ ((175 : Nat) : Int) + (-113)) ∧ mz_t 179 11 = 190 ∧ (0 ≤ ((179 : Nat) : Int) + 11) ∧ mz_t 187 4 = 191 ∧ (0 ≤ ((187 : Nat) : Int) + 4) ∧ mz_t 195 11 = 206 ∧ (0 ≤ ((195 : Nat) : Int) + 11) ∧ mz_t 212 20 = 232 ∧ (0 ≤ ((212 : Nat) : Int) + 20) ∧ mz_t 216 16 = 232 ∧ (0 ≤ ((216 : Nat) : Int) + 16) ∧ mz_t 229 (-20) = 209 ∧ (0 ≤ ((229 : Nat) : Int) + (-20)) := by decide +kernel
theorem j_Model_breaks_22 : mz_t 22 116 = 138 ∧ (0 ≤ ((22 : Nat) : Int) + 116) := by decide +kernel
theorem j_Model_breaks_40 : mz_t 40 26 = 66 ∧ (0 ≤ ((40 : Nat) : Int) + 26) := by decide +kernel
theorem j_Model_breaks_47 : mz_t 47 19 = 66 ∧ (0 ≤ ((47 : Nat) : Int) + 19) := by decide +kernel
theorem j_Model_breaks_59 : mz_t 59 7 = 66 ∧ (0 ≤ ((59 : Nat) : Int) + 7) := by decide +kernel
theorem j_Model_breaks_63 : mz_t 63 4 = 67 ∧ (0 ≤ ((63 : Nat) : Int) + 4) := by decide +kernel
theorem j_Model_breaks_71 : mz_t 71 54 = 125 ∧ (0 ≤ ((71 : Nat) : Int) + 54) := by decide +kernel
theorem j_Model_breaks_76 : mz_t 76 53 = 129 ∧ (0 ≤ ((76 : Nat) : Int) + 53) := by decide +kernel
theorem j_Model_breaks_83 : mz_t 83 13 = 96 ∧ (0 ≤ ((83 : Nat) : Int) + 13) := by decide +kernel
theorem j_Model_breaks_93 : mz_t 93 4 = 97 ∧ (0 ≤ ((93 : Nat) : Int) + 4) := by decide +kernel
theorem j_Model_breaks_105 : mz_t 105 13 = 118 ∧ (0 ≤ ((105 : Nat) : Int) + 13) := by decide +kernel
theorem j_Model_breaks_115 : mz_t 115 4 = 119 ∧ (0 ≤ ((115 : Nat) : Int) + 4) := by decide +kernel
theorem j_Model_breaks_122 : mz_t 122 7 = 129 ∧ (0 ≤ ((122 : Nat) : Int) + 7) := by decide +kernel
theorem j_Model_breaks_126 : mz_t 126 4 = 130 ∧ (0 ≤ ((126 : Nat) : Int) + 4) := by decide +kernel
theorem j_Model_breaks_135 : mz_t 135 (-126) = 9 ∧ (0 ≤ ((135 : Nat) : Int) + (-126)) := by decide +kernel
theorem j_Model_breaks : mz_t 22 116 = 138 ∧ (0 ≤ ((22 : Nat) : Int) + 116) ∧ mz_t 40 26 = 66 ∧ (0 ≤ ((40 : Nat) : Int) + 26) ∧ mz_t 47 19 = 66 ∧ (0 ≤ ((47 : Nat) : Int) + 19) ∧ mz_t 59 7 = 66 ∧ (0 ≤ ((59 : Nat) : Int) + 7) ∧ mz_t 63 4 = 67 ∧ (0 ≤ ((63 : Nat) : Int) + 4) ∧ mz_t 71 54 = 125 ∧ (0 ≤ ((71 : Nat) : Int) + 54) ∧ mz_t 76 53 = 129 ∧ (0 ≤ ((76 : Nat) : Int) + 53) ∧ mz_t 83 13 = 96 ∧ (0 ≤ ((83 : Nat) : Int) + 13) ∧ mz_t 93 4 = 97 ∧ (0 ≤ ((93 : Nat) : Int) + 4) ∧ mz_t 105 13 = 118 ∧ (0 ≤ ((105 : Nat) : Int) + 13) ∧ mz_t 115 4 = 119 ∧ (0 ≤ ((115 : Nat) : Int) + 4) ∧ mz_t 122 7 = 129 ∧ (0 ≤ ((122 : Nat) : Int) + 7) ∧ mz_t 126 4 = 130 ∧ (0 ≤ ((126 : Nat) : Int) + 4) ∧ mz_t 135 (-126) = 9 ∧ (0 ≤ ((135 : Nat) : Int) + (-126)) := by decide +kernel
theorem j_Model_faultOfCard_14 : mz_t 14 7 = 21 ∧ (0 ≤ ((14 : Nat) : Int) + 7) := by decide +kernel
theorem j_Model_faultOfCard_18 : mz_t 18 4 = 22 ∧ (0 ≤ ((18 : Nat) : Int) + 4) := by decide +kernel
theorem j_Model_faultOfCard_26 : mz_t 26 7 = 33 ∧ (0 ≤ ((26 : Nat) : Int) + 7) := by decide +kernel
theorem j_Model_faultOfCard_30 : mz_t 30 4 = 34 ∧ (0 ≤ ((30 : Nat) : Int) + 4) := by decide +kernel
theorem j_Model_faultOfCard_42 : mz_t 42 51 = 93 ∧ (0 ≤ ((42 : Nat) : Int) + 51) := by decide +kernel
theorem j_Model_faultOfCard_47 : mz_t 47 13 = 60 ∧ (0 ≤ ((47 : Nat) : Int) + 13) := by decide +kernel
theorem j_Model_faultOfCard_57 : mz_t 57 7 = 64 ∧ (0 ≤ ((57 : Nat) : Int) + 7) := by decide +kernel
theorem j_Model_faultOfCard_61 : mz_t 61 4 = 65 ∧ (0 ≤ ((61 : Nat) : Int) + 4) := by decide +kernel
theorem j_Model_faultOfCard_76 : mz_t 76 7 = 83 ∧ (0 ≤ ((76 : Nat) : Int) + 7) := by decide +kernel
theorem j_Model_faultOfCard_80 : mz_t 80 4 = 84 ∧ (0 ≤ ((80 : Nat) : Int) + 4) := by decide +kernel
theorem j_Model_faultOfCard_90 : mz_t 90 (-51) = 39 ∧ (0 ≤ ((90 : Nat) : Int) + (-51)) := by decide +kernel
theorem j_Model_faultOfCard_100 : mz_t 100 42 = 142 ∧ (0 ≤ ((100 : Nat) : Int) + 42) := by decide +kernel
theorem j_Model_faultOfCard_105 : mz_t 105 24 = 129 ∧ (0 ≤ ((105 : Nat) : Int) + 24) := by decide +kernel
theorem j_Model_faultOfCard_110 : mz_t 110 23 = 133 ∧ (0 ≤ ((110 : Nat) : Int) + 23) := by decide +kernel
theorem j_Model_faultOfCard_126 : mz_t 126 7 = 133 ∧ (0 ≤ ((126 : Nat) : Int) + 7) := by decide +kernel
theorem j_Model_faultOfCard_130 : mz_t 130 4 = 134 ∧ (0 ≤ ((130 : Nat) : Int) + 4) := by decide +kernel
theorem j_Model_faultOfCard_139 : mz_t 139 (-43) = 96 ∧ (0 ≤ ((139 : Nat) : Int) + (-43)) := by decide +kernel
theorem j_Model_faultOfCard_151 : mz_t 151 33 = 184 ∧ (0 ≤ ((151 : Nat) : Int) + 33) := by decide +kernel
theorem j_Model_faultOfCard_156 : mz_t 156 15 = 171 ∧ (0 ≤ ((156 : Nat) : Int) + 15) := by decide +kernel
theorem j_Model_faultOfCard_168 : mz_t 168 7 = 175 ∧ (0 ≤ ((168 : Nat) : Int) + 7) := by decide +kernel
theorem j_Model_faultOfCard_172 : mz_t 172 4 = 176 ∧ (0 ≤ ((172 : Nat) : Int) + 4) := by decide +kernel
theorem j_Model_faultOfCard_181 : mz_t 181 (-33) = 148 ∧ (0 ≤ ((181 : Nat) : Int) + (-33)) := by decide +kernel
theorem j_Model_faultOfCard_186 : mz_t 186 7 = 193 ∧ (0 ≤ ((186 : Nat) : Int) + 7) := by decide +kernel
theorem j_Model_faultOfCard_190 : mz_t 190 29 = 219 ∧ (0 ≤ ((190 : Nat) : Int) + 29) := by decide +kernel
theorem j_Model_faultOfCard_195 : mz_t 195 7 = 202 ∧ (0 ≤ ((195 : Nat) : Int) + 7) := by decide +kernel
theorem j_Model_faultOfCard_199 : mz_t 199 20 = 219 ∧ (0 ≤ ((199 : Nat) : Int) + 20) := by decide +kernel
theorem j_Model_faultOfCard_211 : mz_t 211 7 = 218 ∧ (0 ≤ ((211 : Nat) : Int) + 7) := by decide +kernel
theorem j_Model_faultOfCard_215 : mz_t 215 4 = 219 ∧ (0 ≤ ((215 : Nat) : Int) + 4) := by decide +kernel
theorem j_Model_faultOfCard : mz_t 14 7 = 21 ∧ (0 ≤ ((14 : Nat) : Int) + 7) ∧ mz_t 18 4 = 22 ∧ (0 ≤ ((18 : Nat) : Int) + 4) ∧ mz_t 26 7 = 33 ∧ (0 ≤ ((26 : Nat) : Int) + 7) ∧ mz_t 30 4 = 34 ∧ (0 ≤ ((30 : Nat) : Int) + 4) ∧ mz_t 42 51 = 93 ∧ (0 ≤ ((42 : Nat) : Int) + 51) ∧ mz_t 47 13 = 60 ∧ (0 ≤ ((47 : Nat) : Int) + 13) ∧ mz_t 57 7 = 64 ∧ (0 ≤ ((57 : Nat) : Int) + 7) ∧ mz_t 61 4 = 65 ∧ (0 ≤ ((61 : Nat) : Int) + 4) ∧ mz_t 76 7 = 83 ∧ (0 ≤ ((76 : Nat) : Int) + 7) ∧ mz_t 80 4 = 84 ∧ (0 ≤ ((80 : Nat) : Int) + 4) ∧ mz_t 90 (-51) = 39 ∧ (0 ≤ ((90 : Nat) : Int) + (-51)) ∧ mz_t 100 42 = 142 ∧ (0 ≤ ((100 : Nat) : Int) + 42) ∧ mz_t 105 24 = 129 ∧ (0 ≤ ((105 : Nat) : Int) + 24) ∧ mz_t 110 23 = 133 ∧ (0 ≤ ((110 : Nat) : Int) + 23) ∧ mz_t 126 7 = 133 ∧ (0 ≤ ((126 : Nat) : Int) + 7) ∧ mz_t 130 4 = 134 ∧ (0 ≤ ((130 : Nat) : Int) + 4) ∧ mz_t 139 (-43) = 96 ∧ (0 ≤ ((139 : Nat) : Int) + (-43)) ∧ mz_t 151 33 = 184 ∧ (0 ≤ ((151 : Nat) : Int) + 33) ∧ mz_t 156 15 = 171 ∧ (0 ≤ ((156 : Nat) : Int) + 15) ∧ mz_t 168 7 = 175 ∧ (0 ≤ ((168 : Nat) : Int) + 7) ∧ mz_t 172 4 = 176 ∧ (0 ≤ ((172 : Nat) : Int) + 4) ∧ mz_t 181 (-33) = 148 ∧ (0 ≤ ((181 : Nat) : Int) + (-33)) ∧ mz_t 186 7 = 193 ∧ (0 ≤ ((186 : Nat) : Int) + 7) ∧ mz_t 190 29 = 219 ∧ (0 ≤ ((190 : Nat) : Int) + 29) ∧ mz_t 195 7 = 202 ∧ (0 ≤ ((195 : Nat) : Int) + 7) ∧ mz_t 199 20 = 219 ∧ (0 ≤ ((199 : Nat) : Int) + 20) ∧ mz_t 211 7 = 218 ∧ (0 ≤ ((211 : Nat) : Int) + 7) ∧ mz_t 215 4 = 219 ∧ (0 ≤ ((215 : Nat) : Int) + 4) := by decide +kernel
theorem j_Model_isListed_19 : mz_t 19 30 = 49 ∧ (0 ≤ ((19 : Nat) : Int) + 30) := by decide +kernel
theorem j_Model_isListed_23 : mz_t 23 14 = 37 ∧ (0 ≤ ((23 : Nat) : Int) + 14) := by decide +kernel
theorem j_Model_isListed_34 : mz_t 34 7 = 41 ∧ (0 ≤ ((34 : Nat) : Int) + 7) := by decide +kernel
theorem j_Model_isListed_38 : mz_t 38 4 = 42 ∧ (0 ≤ ((38 : Nat) : Int) + 4) := by decide +kernel
theorem j_Model_isListed_46 : mz_t 46 (-39) = 7 ∧ (0 ≤ ((46 : Nat) : Int) + (-39)) := by decide +kernel
theorem j_Model_isListed : mz_t 19 30 = 49 ∧ (0 ≤ ((19 : Nat) : Int) + 30) ∧ mz_t 23 14 = 37 ∧ (0 ≤ ((23 : Nat) : Int) + 14) ∧ mz_t 34 7 = 41 ∧ (0 ≤ ((34 : Nat) : Int) + 7) ∧ mz_t 38 4 = 42 ∧ (0 ≤ ((38 : Nat) : Int) + 4) ∧ mz_t 46 (-39) = 7 ∧ (0 ≤ ((46 : Nat) : Int) + (-39)) := by decide +kernel
theorem j_Model_counts_9 : mz_t 9 146 = 155 ∧ (0 ≤ ((9 : Nat) : Int) + 146) := by decide +kernel
theorem j_Model_counts_30 : mz_t 30 7 = 37 ∧ (0 ≤ ((30 : Nat) : Int) + 7) := by decide +kernel
theorem j_Model_counts_34 : mz_t 34 10 = 44 ∧ (0 ≤ ((34 : Nat) : Int) + 10) := by decide +kernel
theorem j_Model_counts_55 : mz_t 55 94 = 149 ∧ (0 ≤ ((55 : Nat) : Int) + 94) := by decide +kernel
theorem j_Model_counts_79 : mz_t 79 14 = 93 ∧ (0 ≤ ((79 : Nat) : Int) + 14) := by decide +kernel
theorem j_Model_counts_86 : mz_t 86 7 = 93 ∧ (0 ≤ ((86 : Nat) : Int) + 7) := by decide +kernel
theorem j_Model_counts_90 : mz_t 90 4 = 94 ∧ (0 ≤ ((90 : Nat) : Int) + 4) := by decide +kernel
theorem j_Model_counts_98 : mz_t 98 7 = 105 ∧ (0 ≤ ((98 : Nat) : Int) + 7) := by decide +kernel
theorem j_Model_counts_102 : mz_t 102 8 = 110 ∧ (0 ≤ ((102 : Nat) : Int) + 8) := by decide +kernel
theorem j_Model_counts_122 : mz_t 122 11 = 133 ∧ (0 ≤ ((122 : Nat) : Int) + 11) := by decide +kernel
theorem j_Model_counts_130 : mz_t 130 4 = 134 ∧ (0 ≤ ((130 : Nat) : Int) + 4) := by decide +kernel
theorem j_Model_counts_146 : mz_t 146 (-95) = 51 ∧ (0 ≤ ((146 : Nat) : Int) + (-95)) := by decide +kernel
theorem j_Model_counts_152 : mz_t 152 (-146) = 6 ∧ (0 ≤ ((152 : Nat) : Int) + (-146)) := by decide +kernel
theorem j_Model_counts : mz_t 9 146 = 155 ∧ (0 ≤ ((9 : Nat) : Int) + 146) ∧ mz_t 30 7 = 37 ∧ (0 ≤ ((30 : Nat) : Int) + 7) ∧ mz_t 34 10 = 44 ∧ (0 ≤ ((34 : Nat) : Int) + 10) ∧ mz_t 55 94 = 149 ∧ (0 ≤ ((55 : Nat) : Int) + 94) ∧ mz_t 79 14 = 93 ∧ (0 ≤ ((79 : Nat) : Int) + 14) ∧ mz_t 86 7 = 93 ∧ (0 ≤ ((86 : Nat) : Int) + 7) ∧ mz_t 90 4 = 94 ∧ (0 ≤ ((90 : Nat) : Int) + 4) ∧ mz_t 98 7 = 105 ∧ (0 ≤ ((98 : Nat) : Int) + 7) ∧ mz_t 102 8 = 110 ∧ (0 ≤ ((102 : Nat) : Int) + 8) ∧ mz_t 122 11 = 133 ∧ (0 ≤ ((122 : Nat) : Int) + 11) ∧ mz_t 130 4 = 134 ∧ (0 ≤ ((130 : Nat) : Int) + 4) ∧ mz_t 146 (-95) = 51 ∧ (0 ≤ ((146 : Nat) : Int) + (-95)) ∧ mz_t 152 (-146) = 6 ∧ (0 ≤ ((152 : Nat) : Int) + (-146)) := by decide +kernel
theorem j_Model_clashes_9 : mz_t 9 32 = 41 ∧ (0 ≤ ((9 : Nat) : Int) + 32) := by decide +kernel
theorem j_Model_clashes_13 : mz_t 13 16 = 29 ∧ (0 ≤ ((13 : Nat) : Int) + 16) := by decide +kernel
theorem j_Model_clashes_26 : mz_t 26 7 = 33 ∧ (0 ≤ ((26 : Nat) : Int) + 7) := by decide +kernel
theorem j_Model_clashes_30 : mz_t 30 4 = 34 ∧ (0 ≤ ((30 : Nat) : Int) + 4) := by decide +kernel
theorem j_Model_clashes_38 : mz_t 38 (-33) = 5 ∧ (0 ≤ ((38 : Nat) : Int) + (-33)) := by decide +kernel
theorem j_Model_clashes : mz_t 9 32 = 41 ∧ (0 ≤ ((9 : Nat) : Int) + 32) ∧ mz_t 13 16 = 29 ∧ (0 ≤ ((13 : Nat) : Int) + 16) ∧ mz_t 26 7 = 33 ∧ (0 ≤ ((26 : Nat) : Int) + 7) ∧ mz_t 30 4 = 34 ∧ (0 ≤ ((30 : Nat) : Int) + 4) ∧ mz_t 38 (-33) = 5 ∧ (0 ≤ ((38 : Nat) : Int) + (-33)) := by decide +kernel
theorem j_Model_totals_22 : mz_t 22 145 = 167 ∧ (0 ≤ ((22 : Nat) : Int) + 145) := by decide +kernel
theorem j_Model_totals_48 : mz_t 48 39 = 87 ∧ (0 ≤ ((48 : Nat) : Int) + 39) := by decide +kernel
theorem j_Model_totals_53 : mz_t 53 34 = 87 ∧ (0 ≤ ((53 : Nat) : Int) + 34) := by decide +kernel
theorem j_Model_totals_65 : mz_t 65 7 = 72 ∧ (0 ≤ ((65 : Nat) : Int) + 7) := by decide +kernel
theorem j_Model_totals_69 : mz_t 69 8 = 77 ∧ (0 ≤ ((69 : Nat) : Int) + 8) := by decide +kernel
theorem j_Model_totals_80 : mz_t 80 7 = 87 ∧ (0 ≤ ((80 : Nat) : Int) + 7) := by decide +kernel
theorem j_Model_totals_84 : mz_t 84 4 = 88 ∧ (0 ≤ ((84 : Nat) : Int) + 4) := by decide +kernel
theorem j_Model_totals_92 : mz_t 92 34 = 126 ∧ (0 ≤ ((92 : Nat) : Int) + 34) := by decide +kernel
theorem j_Model_totals_102 : mz_t 102 7 = 109 ∧ (0 ≤ ((102 : Nat) : Int) + 7) := by decide +kernel
theorem j_Model_totals_106 : mz_t 106 8 = 114 ∧ (0 ≤ ((106 : Nat) : Int) + 8) := by decide +kernel
theorem j_Model_totals_123 : mz_t 123 4 = 127 ∧ (0 ≤ ((123 : Nat) : Int) + 4) := by decide +kernel
theorem j_Model_totals_131 : mz_t 131 10 = 141 ∧ (0 ≤ ((131 : Nat) : Int) + 10) := by decide +kernel
theorem j_Model_totals_138 : mz_t 138 8 = 146 ∧ (0 ≤ ((138 : Nat) : Int) + 8) := by decide +kernel
theorem j_Model_totals_143 : mz_t 143 16 = 159 ∧ (0 ≤ ((143 : Nat) : Int) + 16) := by decide +kernel
theorem j_Model_totals_149 : mz_t 149 8 = 157 ∧ (0 ≤ ((149 : Nat) : Int) + 8) := by decide +kernel
theorem j_Model_totals_154 : mz_t 154 5 = 159 ∧ (0 ≤ ((154 : Nat) : Int) + 5) := by decide +kernel
theorem j_Model_totals_164 : mz_t 164 (-155) = 9 ∧ (0 ≤ ((164 : Nat) : Int) + (-155)) := by decide +kernel
theorem j_Model_totals : mz_t 22 145 = 167 ∧ (0 ≤ ((22 : Nat) : Int) + 145) ∧ mz_t 48 39 = 87 ∧ (0 ≤ ((48 : Nat) : Int) + 39) ∧ mz_t 53 34 = 87 ∧ (0 ≤ ((53 : Nat) : Int) + 34) ∧ mz_t 65 7 = 72 ∧ (0 ≤ ((65 : Nat) : Int) + 7) ∧ mz_t 69 8 = 77 ∧ (0 ≤ ((69 : Nat) : Int) + 8) ∧ mz_t 80 7 = 87 ∧ (0 ≤ ((80 : Nat) : Int) + 7) ∧ mz_t 84 4 = 88 ∧ (0 ≤ ((84 : Nat) : Int) + 4) ∧ mz_t 92 34 = 126 ∧ (0 ≤ ((92 : Nat) : Int) + 34) ∧ mz_t 102 7 = 109 ∧ (0 ≤ ((102 : Nat) : Int) + 7) ∧ mz_t 106 8 = 114 ∧ (0 ≤ ((106 : Nat) : Int) + 8) ∧ mz_t 123 4 = 127 ∧ (0 ≤ ((123 : Nat) : Int) + 4) ∧ mz_t 131 10 = 141 ∧ (0 ≤ ((131 : Nat) : Int) + 10) ∧ mz_t 138 8 = 146 ∧ (0 ≤ ((138 : Nat) : Int) + 8) ∧ mz_t 143 16 = 159 ∧ (0 ≤ ((143 : Nat) : Int) + 16) ∧ mz_t 149 8 = 157 ∧ (0 ≤ ((149 : Nat) : Int) + 8) ∧ mz_t 154 5 = 159 ∧ (0 ≤ ((154 : Nat) : Int) + 5) ∧ mz_t 164 (-155) = 9 ∧ (0 ≤ ((164 : Nat) : Int) + (-155)) := by decide +kernel
theorem j_Model_wheel_8 : mz_t 8 14 = 22 ∧ (0 ≤ ((8 : Nat) : Int) + 14) := by decide +kernel
theorem j_Model_wheel_19 : mz_t 19 (-14) = 5 ∧ (0 ≤ ((19 : Nat) : Int) + (-14)) := by decide +kernel
theorem j_Model_wheel_23 : mz_t 23 12 = 35 ∧ (0 ≤ ((23 : Nat) : Int) + 12) := by decide +kernel
theorem j_Model_wheel_27 : mz_t 27 8 = 35 ∧ (0 ≤ ((27 : Nat) : Int) + 8) := by decide +kernel
theorem j_Model_wheel_32 : mz_t 32 10 = 42 ∧ (0 ≤ ((32 : Nat) : Int) + 10) := by decide +kernel
theorem j_Model_wheel : mz_t 8 14 = 22 ∧ (0 ≤ ((8 : Nat) : Int) + 14) ∧ mz_t 19 (-14) = 5 ∧ (0 ≤ ((19 : Nat) : Int) + (-14)) ∧ mz_t 23 12 = 35 ∧ (0 ≤ ((23 : Nat) : Int) + 12) ∧ mz_t 27 8 = 35 ∧ (0 ≤ ((27 : Nat) : Int) + 8) ∧ mz_t 32 10 = 42 ∧ (0 ≤ ((32 : Nat) : Int) + 10) := by decide +kernel
theorem j_Model_hasLevel_8 : mz_t 8 34 = 42 ∧ (0 ≤ ((8 : Nat) : Int) + 34) := by decide +kernel
theorem j_Model_hasLevel_12 : mz_t 12 18 = 30 ∧ (0 ≤ ((12 : Nat) : Int) + 18) := by decide +kernel
theorem j_Model_hasLevel_27 : mz_t 27 7 = 34 ∧ (0 ≤ ((27 : Nat) : Int) + 7) := by decide +kernel
theorem j_Model_hasLevel_31 : mz_t 31 4 = 35 ∧ (0 ≤ ((31 : Nat) : Int) + 4) := by decide +kernel
theorem j_Model_hasLevel_39 : mz_t 39 (-34) = 5 ∧ (0 ≤ ((39 : Nat) : Int) + (-34)) := by decide +kernel
theorem j_Model_hasLevel : mz_t 8 34 = 42 ∧ (0 ≤ ((8 : Nat) : Int) + 34) ∧ mz_t 12 18 = 30 ∧ (0 ≤ ((12 : Nat) : Int) + 18) ∧ mz_t 27 7 = 34 ∧ (0 ≤ ((27 : Nat) : Int) + 7) ∧ mz_t 31 4 = 35 ∧ (0 ≤ ((31 : Nat) : Int) + 4) ∧ mz_t 39 (-34) = 5 ∧ (0 ≤ ((39 : Nat) : Int) + (-34)) := by decide +kernel
theorem j_Model_tabulateCard_6 : mz_t 6 16 = 22 ∧ (0 ≤ ((6 : Nat) : Int) + 16) := by decide +kernel
theorem j_Model_tabulateCard_19 : mz_t 19 (-16) = 3 ∧ (0 ≤ ((19 : Nat) : Int) + (-16)) := by decide +kernel
theorem j_Model_tabulateCard_27 : mz_t 27 46 = 73 ∧ (0 ≤ ((27 : Nat) : Int) + 46) := by decide +kernel
theorem j_Model_tabulateCard_37 : mz_t 37 26 = 63 ∧ (0 ≤ ((37 : Nat) : Int) + 26) := by decide +kernel
theorem j_Model_tabulateCard_60 : mz_t 60 (-27) = 33 ∧ (0 ≤ ((60 : Nat) : Int) + (-27)) := by decide +kernel
theorem j_Model_tabulateCard_79 : mz_t 79 23 = 102 ∧ (0 ≤ ((79 : Nat) : Int) + 23) := by decide +kernel
theorem j_Model_tabulateCard_99 : mz_t 99 (-23) = 76 ∧ (0 ≤ ((99 : Nat) : Int) + (-23)) := by decide +kernel
theorem j_Model_tabulateCard : mz_t 6 16 = 22 ∧ (0 ≤ ((6 : Nat) : Int) + 16) ∧ mz_t 19 (-16) = 3 ∧ (0 ≤ ((19 : Nat) : Int) + (-16)) ∧ mz_t 27 46 = 73 ∧ (0 ≤ ((27 : Nat) : Int) + 46) ∧ mz_t 37 26 = 63 ∧ (0 ≤ ((37 : Nat) : Int) + 26) ∧ mz_t 60 (-27) = 33 ∧ (0 ≤ ((60 : Nat) : Int) + (-27)) ∧ mz_t 79 23 = 102 ∧ (0 ≤ ((79 : Nat) : Int) + 23) ∧ mz_t 99 (-23) = 76 ∧ (0 ≤ ((99 : Nat) : Int) + (-23)) := by decide +kernel
theorem j_Model_total_6 : mz_t 6 4 = 10 ∧ (0 ≤ ((6 : Nat) : Int) + 4) := by decide +kernel
theorem j_Model_total_15 : mz_t 15 21 = 36 ∧ (0 ≤ ((15 : Nat) : Int) + 21) := by decide +kernel
theorem j_Model_total_33 : mz_t 33 (-21) = 12 ∧ (0 ≤ ((33 : Nat) : Int) + (-21)) := by decide +kernel
theorem j_Model_total_50 : mz_t 50 39 = 89 ∧ (0 ≤ ((50 : Nat) : Int) + 39) := by decide +kernel
theorem j_Model_total_69 : mz_t 69 7 = 76 ∧ (0 ≤ ((69 : Nat) : Int) + 7) := by decide +kernel
theorem j_Model_total_73 : mz_t 73 9 = 82 ∧ (0 ≤ ((73 : Nat) : Int) + 9) := by decide +kernel
theorem j_Model_total_86 : mz_t 86 (-38) = 48 ∧ (0 ≤ ((86 : Nat) : Int) + (-38)) := by decide +kernel
theorem j_Model_total : mz_t 6 4 = 10 ∧ (0 ≤ ((6 : Nat) : Int) + 4) ∧ mz_t 15 21 = 36 ∧ (0 ≤ ((15 : Nat) : Int) + 21) ∧ mz_t 33 (-21) = 12 ∧ (0 ≤ ((33 : Nat) : Int) + (-21)) ∧ mz_t 50 39 = 89 ∧ (0 ≤ ((50 : Nat) : Int) + 39) ∧ mz_t 69 7 = 76 ∧ (0 ≤ ((69 : Nat) : Int) + 7) ∧ mz_t 73 9 = 82 ∧ (0 ≤ ((73 : Nat) : Int) + 9) ∧ mz_t 86 (-38) = 48 ∧ (0 ≤ ((86 : Nat) : Int) + (-38)) := by decide +kernel
theorem j_Model_print_14 : mz_t 14 8 = 22 ∧ (0 ≤ ((14 : Nat) : Int) + 8) := by decide +kernel
theorem j_Model_print_19 : mz_t 19 4 = 23 ∧ (0 ≤ ((19 : Nat) : Int) + 4) := by decide +kernel
theorem j_Model_print : mz_t 14 8 = 22 ∧ (0 ≤ ((14 : Nat) : Int) + 8) ∧ mz_t 19 4 = 23 ∧ (0 ≤ ((19 : Nat) : Int) + 4) := by decide +kernel
theorem j_Model_faultOfEnd_10 : mz_t 10 47 = 57 ∧ (0 ≤ ((10 : Nat) : Int) + 47) := by decide +kernel
theorem j_Model_faultOfEnd_14 : mz_t 14 13 = 27 ∧ (0 ≤ ((14 : Nat) : Int) + 13) := by decide +kernel
theorem j_Model_faultOfEnd_24 : mz_t 24 7 = 31 ∧ (0 ≤ ((24 : Nat) : Int) + 7) := by decide +kernel
theorem j_Model_faultOfEnd_28 : mz_t 28 4 = 32 ∧ (0 ≤ ((28 : Nat) : Int) + 4) := by decide +kernel
theorem j_Model_faultOfEnd_41 : mz_t 41 7 = 48 ∧ (0 ≤ ((41 : Nat) : Int) + 7) := by decide +kernel
theorem j_Model_faultOfEnd_45 : mz_t 45 4 = 49 ∧ (0 ≤ ((45 : Nat) : Int) + 4) := by decide +kernel
theorem j_Model_faultOfEnd_54 : mz_t 54 (-47) = 7 ∧ (0 ≤ ((54 : Nat) : Int) + (-47)) := by decide +kernel
theorem j_Model_faultOfEnd_58 : mz_t 58 7 = 65 ∧ (0 ≤ ((58 : Nat) : Int) + 7) := by decide +kernel
theorem j_Model_faultOfEnd_62 : mz_t 62 19 = 81 ∧ (0 ≤ ((62 : Nat) : Int) + 19) := by decide +kernel
theorem j_Model_faultOfEnd_73 : mz_t 73 7 = 80 ∧ (0 ≤ ((73 : Nat) : Int) + 7) := by decide +kernel
theorem j_Model_faultOfEnd_77 : mz_t 77 4 = 81 ∧ (0 ≤ ((77 : Nat) : Int) + 4) := by decide +kernel
theorem j_Model_faultOfEnd : mz_t 10 47 = 57 ∧ (0 ≤ ((10 : Nat) : Int) + 47) ∧ mz_t 14 13 = 27 ∧ (0 ≤ ((14 : Nat) : Int) + 13) ∧ mz_t 24 7 = 31 ∧ (0 ≤ ((24 : Nat) : Int) + 7) ∧ mz_t 28 4 = 32 ∧ (0 ≤ ((28 : Nat) : Int) + 4) ∧ mz_t 41 7 = 48 ∧ (0 ≤ ((41 : Nat) : Int) + 7) ∧ mz_t 45 4 = 49 ∧ (0 ≤ ((45 : Nat) : Int) + 4) ∧ mz_t 54 (-47) = 7 ∧ (0 ≤ ((54 : Nat) : Int) + (-47)) ∧ mz_t 58 7 = 65 ∧ (0 ≤ ((58 : Nat) : Int) + 7) ∧ mz_t 62 19 = 81 ∧ (0 ≤ ((62 : Nat) : Int) + 19) ∧ mz_t 73 7 = 80 ∧ (0 ≤ ((73 : Nat) : Int) + 7) ∧ mz_t 77 4 = 81 ∧ (0 ≤ ((77 : Nat) : Int) + 4) := by decide +kernel
theorem j_Model_cut_9 : mz_t 9 29 = 38 ∧ (0 ≤ ((9 : Nat) : Int) + 29) := by decide +kernel
theorem j_Model_cut_16 : mz_t 16 22 = 38 ∧ (0 ≤ ((16 : Nat) : Int) + 22) := by decide +kernel
theorem j_Model_cut_21 : mz_t 21 17 = 38 ∧ (0 ≤ ((21 : Nat) : Int) + 17) := by decide +kernel
theorem j_Model_cut_25 : mz_t 25 13 = 38 ∧ (0 ≤ ((25 : Nat) : Int) + 13) := by decide +kernel
theorem j_Model_cut_35 : mz_t 35 5 = 40 ∧ (0 ≤ ((35 : Nat) : Int) + 5) := by decide +kernel
theorem j_Model_cut_46 : mz_t 46 21 = 67 ∧ (0 ≤ ((46 : Nat) : Int) + 21) := by decide +kernel
theorem j_Model_cut_64 : mz_t 64 (-21) = 43 ∧ (0 ≤ ((64 : Nat) : Int) + (-21)) := by decide +kernel
theorem j_Model_cut_88 : mz_t 88 37 = 125 ∧ (0 ≤ ((88 : Nat) : Int) + 37) := by decide +kernel
theorem j_Model_cut_122 : mz_t 122 (-42) = 80 ∧ (0 ≤ ((122 : Nat) : Int) + (-42)) := by decide +kernel
theorem j_Model_cut : mz_t 9 29 = 38 ∧ (0 ≤ ((9 : Nat) : Int) + 29) ∧ mz_t 16 22 = 38 ∧ (0 ≤ ((16 : Nat) : Int) + 22) ∧ mz_t 21 17 = 38 ∧ (0 ≤ ((21 : Nat) : Int) + 17) ∧ mz_t 25 13 = 38 ∧ (0 ≤ ((25 : Nat) : Int) + 13) ∧ mz_t 35 5 = 40 ∧ (0 ≤ ((35 : Nat) : Int) + 5) ∧ mz_t 46 21 = 67 ∧ (0 ≤ ((46 : Nat) : Int) + 21) ∧ mz_t 64 (-21) = 43 ∧ (0 ≤ ((64 : Nat) : Int) + (-21)) ∧ mz_t 88 37 = 125 ∧ (0 ≤ ((88 : Nat) : Int) + 37) ∧ mz_t 122 (-42) = 80 ∧ (0 ≤ ((122 : Nat) : Int) + (-42)) := by decide +kernel
theorem j_Model_sign_4 : mz_t 4 18 = 22 ∧ (0 ≤ ((4 : Nat) : Int) + 18) := by decide +kernel
theorem j_Model_sign_8 : mz_t 8 14 = 22 ∧ (0 ≤ ((8 : Nat) : Int) + 14) := by decide +kernel
theorem j_Model_sign_15 : mz_t 15 7 = 22 ∧ (0 ≤ ((15 : Nat) : Int) + 7) := by decide +kernel
theorem j_Model_sign_19 : mz_t 19 4 = 23 ∧ (0 ≤ ((19 : Nat) : Int) + 4) := by decide +kernel
theorem j_Model_sign_28 : mz_t 28 26 = 54 ∧ (0 ≤ ((28 : Nat) : Int) + 26) := by decide +kernel
theorem j_Model_sign_38 : mz_t 38 7 = 45 ∧ (0 ≤ ((38 : Nat) : Int) + 7) := by decide +kernel
theorem j_Model_sign_42 : mz_t 42 4 = 46 ∧ (0 ≤ ((42 : Nat) : Int) + 4) := by decide +kernel
theorem j_Model_sign_47 : mz_t 47 7 = 54 ∧ (0 ≤ ((47 : Nat) : Int) + 7) := by decide +kernel
theorem j_Model_sign_51 : mz_t 51 4 = 55 ∧ (0 ≤ ((51 : Nat) : Int) + 4) := by decide +kernel
theorem j_Model_sign_62 : mz_t 62 7 = 69 ∧ (0 ≤ ((62 : Nat) : Int) + 7) := by decide +kernel
theorem j_Model_sign_66 : mz_t 66 14 = 80 ∧ (0 ≤ ((66 : Nat) : Int) + 14) := by decide +kernel
theorem j_Model_sign : mz_t 4 18 = 22 ∧ (0 ≤ ((4 : Nat) : Int) + 18) ∧ mz_t 8 14 = 22 ∧ (0 ≤ ((8 : Nat) : Int) + 14) ∧ mz_t 15 7 = 22 ∧ (0 ≤ ((15 : Nat) : Int) + 7) ∧ mz_t 19 4 = 23 ∧ (0 ≤ ((19 : Nat) : Int) + 4) ∧ mz_t 28 26 = 54 ∧ (0 ≤ ((28 : Nat) : Int) + 26) ∧ mz_t 38 7 = 45 ∧ (0 ≤ ((38 : Nat) : Int) + 7) ∧ mz_t 42 4 = 46 ∧ (0 ≤ ((42 : Nat) : Int) + 4) ∧ mz_t 47 7 = 54 ∧ (0 ≤ ((47 : Nat) : Int) + 7) ∧ mz_t 51 4 = 55 ∧ (0 ≤ ((51 : Nat) : Int) + 4) ∧ mz_t 62 7 = 69 ∧ (0 ≤ ((62 : Nat) : Int) + 7) ∧ mz_t 66 14 = 80 ∧ (0 ≤ ((66 : Nat) : Int) + 14) := by decide +kernel
theorem j_Model_printed_2 : mz_t 2 25 = 27 ∧ (0 ≤ ((2 : Nat) : Int) + 25) := by decide +kernel
theorem j_Model_printed_10 : mz_t 10 17 = 27 ∧ (0 ≤ ((10 : Nat) : Int) + 17) := by decide +kernel
theorem j_Model_printed_14 : mz_t 14 13 = 27 ∧ (0 ≤ ((14 : Nat) : Int) + 13) := by decide +kernel
theorem j_Model_printed_20 : mz_t 20 7 = 27 ∧ (0 ≤ ((20 : Nat) : Int) + 7) := by decide +kernel
theorem j_Model_printed_24 : mz_t 24 4 = 28 ∧ (0 ≤ ((24 : Nat) : Int) + 4) := by decide +kernel
theorem j_Model_printed_35 : mz_t 35 7 = 42 ∧ (0 ≤ ((35 : Nat) : Int) + 7) := by decide +kernel
theorem j_Model_printed_39 : mz_t 39 14 = 53 ∧ (0 ≤ ((39 : Nat) : Int) + 14) := by decide +kernel
theorem j_Model_printed : mz_t 2 25 = 27 ∧ (0 ≤ ((2 : Nat) : Int) + 25) ∧ mz_t 10 17 = 27 ∧ (0 ≤ ((10 : Nat) : Int) + 17) ∧ mz_t 14 13 = 27 ∧ (0 ≤ ((14 : Nat) : Int) + 13) ∧ mz_t 20 7 = 27 ∧ (0 ≤ ((20 : Nat) : Int) + 7) ∧ mz_t 24 4 = 28 ∧ (0 ≤ ((24 : Nat) : Int) + 4) ∧ mz_t 35 7 = 42 ∧ (0 ≤ ((35 : Nat) : Int) + 7) ∧ mz_t 39 14 = 53 ∧ (0 ≤ ((39 : Nat) : Int) + 14) := by decide +kernel
theorem j_Model_counter_2 : mz_t 2 12 = 14 ∧ (0 ≤ ((2 : Nat) : Int) + 12) := by decide +kernel
theorem j_Model_counter_7 : mz_t 7 7 = 14 ∧ (0 ≤ ((7 : Nat) : Int) + 7) := by decide +kernel
theorem j_Model_counter_11 : mz_t 11 4 = 15 ∧ (0 ≤ ((11 : Nat) : Int) + 4) := by decide +kernel
theorem j_Model_counter_22 : mz_t 22 7 = 29 ∧ (0 ≤ ((22 : Nat) : Int) + 7) := by decide +kernel
theorem j_Model_counter_26 : mz_t 26 9 = 35 ∧ (0 ≤ ((26 : Nat) : Int) + 9) := by decide +kernel
theorem j_Model_counter : mz_t 2 12 = 14 ∧ (0 ≤ ((2 : Nat) : Int) + 12) ∧ mz_t 7 7 = 14 ∧ (0 ≤ ((7 : Nat) : Int) + 7) ∧ mz_t 11 4 = 15 ∧ (0 ≤ ((11 : Nat) : Int) + 4) ∧ mz_t 22 7 = 29 ∧ (0 ≤ ((22 : Nat) : Int) + 7) ∧ mz_t 26 9 = 35 ∧ (0 ≤ ((26 : Nat) : Int) + 9) := by decide +kernel
theorem j_Model_fault_6 : mz_t 6 10 = 16 ∧ (0 ≤ ((6 : Nat) : Int) + 10) := by decide +kernel
theorem j_Model_fault_13 : mz_t 13 16 = 29 ∧ (0 ≤ ((13 : Nat) : Int) + 16) := by decide +kernel
theorem j_Model_fault_18 : mz_t 18 10 = 28 ∧ (0 ≤ ((18 : Nat) : Int) + 10) := by decide +kernel
theorem j_Model_fault_25 : mz_t 25 4 = 29 ∧ (0 ≤ ((25 : Nat) : Int) + 4) := by decide +kernel
theorem j_Model_fault : mz_t 6 10 = 16 ∧ (0 ≤ ((6 : Nat) : Int) + 10) ∧ mz_t 13 16 = 29 ∧ (0 ≤ ((13 : Nat) : Int) + 16) ∧ mz_t 18 10 = 28 ∧ (0 ≤ ((18 : Nat) : Int) + 10) ∧ mz_t 25 4 = 29 ∧ (0 ≤ ((25 : Nat) : Int) + 4) := by decide +kernel
theorem j_Model_count_6 : mz_t 6 16 = 22 ∧ (0 ≤ ((6 : Nat) : Int) + 16) := by decide +kernel
theorem j_Model_count_12 : mz_t 12 10 = 22 ∧ (0 ≤ ((12 : Nat) : Int) + 10) := by decide +kernel
theorem j_Model_count_25 : mz_t 25 19 = 44 ∧ (0 ≤ ((25 : Nat) : Int) + 19) := by decide +kernel
theorem j_Model_count_31 : mz_t 31 13 = 44 ∧ (0 ≤ ((31 : Nat) : Int) + 13) := by decide +kernel
theorem j_Model_count_47 : mz_t 47 10 = 57 ∧ (0 ≤ ((47 : Nat) : Int) + 10) := by decide +kernel
theorem j_Model_count_54 : mz_t 54 43 = 97 ∧ (0 ≤ ((54 : Nat) : Int) + 43) := by decide +kernel
theorem j_Model_count_60 : mz_t 60 10 = 70 ∧ (0 ≤ ((60 : Nat) : Int) + 10) := by decide +kernel
theorem j_Model_count_67 : mz_t 67 30 = 97 ∧ (0 ≤ ((67 : Nat) : Int) + 30) := by decide +kernel
theorem j_Model_count_73 : mz_t 73 10 = 83 ∧ (0 ≤ ((73 : Nat) : Int) + 10) := by decide +kernel
theorem j_Model_count_80 : mz_t 80 17 = 97 ∧ (0 ≤ ((80 : Nat) : Int) + 17) := by decide +kernel
theorem j_Model_count_86 : mz_t 86 10 = 96 ∧ (0 ≤ ((86 : Nat) : Int) + 10) := by decide +kernel
theorem j_Model_count_93 : mz_t 93 4 = 97 ∧ (0 ≤ ((93 : Nat) : Int) + 4) := by decide +kernel
theorem j_Model_count : mz_t 6 16 = 22 ∧ (0 ≤ ((6 : Nat) : Int) + 16) ∧ mz_t 12 10 = 22 ∧ (0 ≤ ((12 : Nat) : Int) + 10) ∧ mz_t 25 19 = 44 ∧ (0 ≤ ((25 : Nat) : Int) + 19) ∧ mz_t 31 13 = 44 ∧ (0 ≤ ((31 : Nat) : Int) + 13) ∧ mz_t 47 10 = 57 ∧ (0 ≤ ((47 : Nat) : Int) + 10) ∧ mz_t 54 43 = 97 ∧ (0 ≤ ((54 : Nat) : Int) + 43) ∧ mz_t 60 10 = 70 ∧ (0 ≤ ((60 : Nat) : Int) + 10) ∧ mz_t 67 30 = 97 ∧ (0 ≤ ((67 : Nat) : Int) + 30) ∧ mz_t 73 10 = 83 ∧ (0 ≤ ((73 : Nat) : Int) + 10) ∧ mz_t 80 17 = 97 ∧ (0 ≤ ((80 : Nat) : Int) + 17) ∧ mz_t 86 10 = 96 ∧ (0 ≤ ((86 : Nat) : Int) + 10) ∧ mz_t 93 4 = 97 ∧ (0 ≤ ((93 : Nat) : Int) + 4) := by decide +kernel
end
section
/-! a step of a walk at a known place: nothing is unfolded under the binders of what comes behind it -/
theorem mz_rl {X : mz_E} {cn : Nat} {ini : Bool} {cc : ByteArray} {nL : Nat} {ret : Option FieldType} {S : List Nat} {K : Nat → mz_L → List Value → mz_H → Prop} {P : Option Value → mz_H → Prop} {k pc : Nat} {l : mz_L} {st : List Value} {f : mz_H} {i : Instr} {len : Nat} (hd : decode cc pc = .ok (i, len)) :
    mz_run X cn ini cc nL ret S K P (k + 1) pc l st f = mz_S X cn ini nL ret i len pc l st f (fun pc' l' st' f' => if pc' ∈ S then K pc' l' st' f' else mz_run X cn ini cc nL ret S K P k pc' l' st' f') (fun v => P v f) := by
  first
  | (rw [mz_run, hd]; done)
  | (rw [mz_run, hd]; rfl)
  | (unfold mz_run; rw [hd]; done)
  | (unfold mz_run; rw [hd]; rfl)
  | (simp only [mz_run, hd]; done)
theorem mz_r0 {X : mz_E} {cn : Nat} {ini : Bool} {cc : ByteArray} {nL : Nat} {ret : Option FieldType} {S : List Nat} {K : Nat → mz_L → List Value → mz_H → Prop} {P : Option Value → mz_H → Prop} {pc : Nat} {l : mz_L} {st : List Value} {f : mz_H} : mz_run X cn ini cc nL ret S K P 0 pc l st f = K pc l st f := rfl
end
