section
def y_Office_init : MethodName := ⟨"CardOffice", "<init>", "()V"⟩
abbrev b_Office_init : ByteArray := prog_1_method_1_code
def r_Office_init (c s : Nat) : Room := { frames := 3, cells := c, slots := s, locals := 56 }
theorem d_Office_init_0 : decode b_Office_init 0 = .ok (.aload_n 0, 1) := by decide +kernel
theorem d_Office_init_1 : decode b_Office_init 1 = .ok (.invokespecial 1, 3) := by decide +kernel
theorem d_Office_init_4 : decode b_Office_init 4 = .ok (.aload_n 0, 1) := by decide +kernel
theorem d_Office_init_5 : decode b_Office_init 5 = .ok (.bipush 8, 2) := by decide +kernel
theorem d_Office_init_7 : decode b_Office_init 7 = .ok (.anewarray 9, 3) := by decide +kernel
theorem d_Office_init_10 : decode b_Office_init 10 = .ok (.putfield 11, 3) := by decide +kernel
theorem d_Office_init_13 : decode b_Office_init 13 = .ok (.aload_n 0, 1) := by decide +kernel
theorem d_Office_init_14 : decode b_Office_init 14 = .ok (.iconst 4, 1) := by decide +kernel
theorem d_Office_init_15 : decode b_Office_init 15 = .ok (.anewarray 15, 3) := by decide +kernel
theorem d_Office_init_18 : decode b_Office_init 18 = .ok (.putfield 17, 3) := by decide +kernel
theorem d_Office_init_21 : decode b_Office_init 21 = .ok (.aload_n 0, 1) := by decide +kernel
theorem d_Office_init_22 : decode b_Office_init 22 = .ok (.bipush 16, 2) := by decide +kernel
theorem d_Office_init_24 : decode b_Office_init 24 = .ok (.newarray .int, 2) := by decide +kernel
theorem d_Office_init_26 : decode b_Office_init 26 = .ok (.putfield 21, 3) := by decide +kernel
theorem d_Office_init_29 : decode b_Office_init 29 = .ok (.aload_n 0, 1) := by decide +kernel
theorem d_Office_init_30 : decode b_Office_init 30 = .ok (.new 25, 3) := by decide +kernel
theorem d_Office_init_33 : decode b_Office_init 33 = .ok (.dup, 1) := by decide +kernel
theorem d_Office_init_34 : decode b_Office_init 34 = .ok (.invokespecial 27, 3) := by decide +kernel
theorem d_Office_init_37 : decode b_Office_init 37 = .ok (.putfield 28, 3) := by decide +kernel
theorem d_Office_init_40 : decode b_Office_init 40 = .ok (.aload_n 0, 1) := by decide +kernel
theorem d_Office_init_41 : decode b_Office_init 41 = .ok (.new 32, 3) := by decide +kernel
theorem d_Office_init_44 : decode b_Office_init 44 = .ok (.dup, 1) := by decide +kernel
theorem d_Office_init_45 : decode b_Office_init 45 = .ok (.invokespecial 34, 3) := by decide +kernel
theorem d_Office_init_48 : decode b_Office_init 48 = .ok (.putfield 35, 3) := by decide +kernel
theorem d_Office_init_51 : decode b_Office_init 51 = .ok (.aload_n 0, 1) := by decide +kernel
theorem d_Office_init_52 : decode b_Office_init 52 = .ok (.new 39, 3) := by decide +kernel
theorem d_Office_init_55 : decode b_Office_init 55 = .ok (.dup, 1) := by decide +kernel
theorem d_Office_init_56 : decode b_Office_init 56 = .ok (.invokespecial 41, 3) := by decide +kernel
theorem d_Office_init_59 : decode b_Office_init 59 = .ok (.putfield 42, 3) := by decide +kernel
theorem d_Office_init_62 : decode b_Office_init 62 = .ok (.aload_n 0, 1) := by decide +kernel
theorem d_Office_init_63 : decode b_Office_init 63 = .ok (.new 46, 3) := by decide +kernel
theorem d_Office_init_66 : decode b_Office_init 66 = .ok (.dup, 1) := by decide +kernel
theorem d_Office_init_67 : decode b_Office_init 67 = .ok (.invokespecial 48, 3) := by decide +kernel
theorem d_Office_init_70 : decode b_Office_init 70 = .ok (.putfield 49, 3) := by decide +kernel
theorem d_Office_init_73 : decode b_Office_init 73 = .ok (.aload_n 0, 1) := by decide +kernel
theorem d_Office_init_74 : decode b_Office_init 74 = .ok (.new 53, 3) := by decide +kernel
theorem d_Office_init_77 : decode b_Office_init 77 = .ok (.dup, 1) := by decide +kernel
theorem d_Office_init_78 : decode b_Office_init 78 = .ok (.invokespecial 55, 3) := by decide +kernel
theorem d_Office_init_81 : decode b_Office_init 81 = .ok (.putfield 56, 3) := by decide +kernel
theorem d_Office_init_84 : decode b_Office_init 84 = .ok (.iconst 0, 1) := by decide +kernel
theorem d_Office_init_85 : decode b_Office_init 85 = .ok (.istore_n 1, 1) := by decide +kernel
theorem d_Office_init_86 : decode b_Office_init 86 = .ok (.iload_n 1, 1) := by decide +kernel
theorem d_Office_init_87 : decode b_Office_init 87 = .ok (.bipush 8, 2) := by decide +kernel
theorem d_Office_init_89 : decode b_Office_init 89 = .ok (.if_icmp .ge 22, 3) := by decide +kernel
theorem d_Office_init_92 : decode b_Office_init 92 = .ok (.aload_n 0, 1) := by decide +kernel
theorem d_Office_init_93 : decode b_Office_init 93 = .ok (.getfield 11, 3) := by decide +kernel
theorem d_Office_init_96 : decode b_Office_init 96 = .ok (.iload_n 1, 1) := by decide +kernel
theorem d_Office_init_97 : decode b_Office_init 97 = .ok (.new 9, 3) := by decide +kernel
theorem d_Office_init_100 : decode b_Office_init 100 = .ok (.dup, 1) := by decide +kernel
theorem d_Office_init_101 : decode b_Office_init 101 = .ok (.invokespecial 60, 3) := by decide +kernel
theorem d_Office_init_104 : decode b_Office_init 104 = .ok (.aastore, 1) := by decide +kernel
theorem d_Office_init_105 : decode b_Office_init 105 = .ok (.iinc 1 1, 3) := by decide +kernel
theorem d_Office_init_108 : decode b_Office_init 108 = .ok (.goto (-22), 3) := by decide +kernel
theorem d_Office_init_111 : decode b_Office_init 111 = .ok (.iconst 0, 1) := by decide +kernel
theorem d_Office_init_112 : decode b_Office_init 112 = .ok (.istore_n 1, 1) := by decide +kernel
theorem d_Office_init_113 : decode b_Office_init 113 = .ok (.iload_n 1, 1) := by decide +kernel
theorem d_Office_init_114 : decode b_Office_init 114 = .ok (.iconst 4, 1) := by decide +kernel
theorem d_Office_init_115 : decode b_Office_init 115 = .ok (.if_icmp .ge 22, 3) := by decide +kernel
theorem d_Office_init_118 : decode b_Office_init 118 = .ok (.aload_n 0, 1) := by decide +kernel
theorem d_Office_init_119 : decode b_Office_init 119 = .ok (.getfield 17, 3) := by decide +kernel
theorem d_Office_init_122 : decode b_Office_init 122 = .ok (.iload_n 1, 1) := by decide +kernel
theorem d_Office_init_123 : decode b_Office_init 123 = .ok (.new 15, 3) := by decide +kernel
theorem d_Office_init_126 : decode b_Office_init 126 = .ok (.dup, 1) := by decide +kernel
theorem d_Office_init_127 : decode b_Office_init 127 = .ok (.invokespecial 61, 3) := by decide +kernel
theorem d_Office_init_130 : decode b_Office_init 130 = .ok (.aastore, 1) := by decide +kernel
theorem d_Office_init_131 : decode b_Office_init 131 = .ok (.iinc 1 1, 3) := by decide +kernel
theorem d_Office_init_134 : decode b_Office_init 134 = .ok (.goto (-21), 3) := by decide +kernel
theorem d_Office_init_137 : decode b_Office_init 137 = .ok (.return_, 1) := by decide +kernel
theorem d_Office_init : decode b_Office_init 0 = .ok (.aload_n 0, 1) ∧ decode b_Office_init 1 = .ok (.invokespecial 1, 3) ∧ decode b_Office_init 4 = .ok (.aload_n 0, 1) ∧ decode b_Office_init 5 = .ok (.bipush 8, 2) ∧ decode b_Office_init 7 = .ok (.anewarray 9, 3) ∧ decode b_Office_init 10 = .ok (.putfield 11, 3) ∧ decode b_Office_init 13 = .ok (.aload_n 0, 1) ∧ decode b_Office_init 14 = .ok (.iconst 4, 1) ∧ decode b_Office_init 15 = .ok (.anewarray 15, 3) ∧ decode b_Office_init 18 = .ok (.putfield 17, 3) ∧ decode b_Office_init 21 = .ok (.aload_n 0, 1) ∧ decode b_Office_init 22 = .ok (.bipush 16, 2) ∧ decode b_Office_init 24 = .ok (.newarray .int, 2) ∧ decode b_Office_init 26 = .ok (.putfield 21, 3) ∧ decode b_Office_init 29 = .ok (.aload_n 0, 1) ∧ decode b_Office_init 30 = .ok (.new 25, 3) ∧ decode b_Office_init 33 = .ok (.dup, 1) ∧ decode b_Office_init 34 = .ok (.invokespecial 27, 3) ∧ decode b_Office_init 37 = .ok (.putfield 28, 3) ∧ decode b_Office_init 40 = .ok (.aload_n 0, 1) ∧ decode b_Office_init 41 = .ok (.new 32, 3) ∧ decode b_Office_init 44 = .ok (.dup, 1) ∧ decode b_Office_init 45 = .ok (.invokespecial 34, 3) ∧ decode b_Office_init 48 = .ok (.putfield 35, 3) ∧ decode b_Office_init 51 = .ok (.aload_n 0, 1) ∧ decode b_Office_init 52 = .ok (.new 39, 3) ∧ decode b_Office_init 55 = .ok (.dup, 1) ∧ decode b_Office_init 56 = .ok (.invokespecial 41, 3) ∧ decode b_Office_init 59 = .ok (.putfield 42, 3) ∧ decode b_Office_init 62 = .ok (.aload_n 0, 1) ∧ decode b_Office_init 63 = .ok (.new 46, 3) ∧ decode b_Office_init 66 = .ok (.dup, 1) ∧ decode b_Office_init 67 = .ok (.invokespecial 48, 3) ∧ decode b_Office_init 70 = .ok (.putfield 49, 3) ∧ decode b_Office_init 73 = .ok (.aload_n 0, 1) ∧ decode b_Office_init 74 = .ok (.new 53, 3) ∧ decode b_Office_init 77 = .ok (.dup, 1) ∧ decode b_Office_init 78 = .ok (.invokespecial 55, 3) ∧ decode b_Office_init 81 = .ok (.putfield 56, 3) ∧ decode b_Office_init 84 = .ok (.iconst 0, 1) ∧ decode b_Office_init 85 = .ok (.istore_n 1, 1) ∧ decode b_Office_init 86 = .ok (.iload_n 1, 1) ∧ decode b_Office_init 87 = .ok (.bipush 8, 2) ∧ decode b_Office_init 89 = .ok (.if_icmp .ge 22, 3) ∧ decode b_Office_init 92 = .ok (.aload_n 0, 1) ∧ decode b_Office_init 93 = .ok (.getfield 11, 3) ∧ decode b_Office_init 96 = .ok (.iload_n 1, 1) ∧ decode b_Office_init 97 = .ok (.new 9, 3) ∧ decode b_Office_init 100 = .ok (.dup, 1) ∧ decode b_Office_init 101 = .ok (.invokespecial 60, 3) ∧ decode b_Office_init 104 = .ok (.aastore, 1) ∧ decode b_Office_init 105 = .ok (.iinc 1 1, 3) ∧ decode b_Office_init 108 = .ok (.goto (-22), 3) ∧ decode b_Office_init 111 = .ok (.iconst 0, 1) ∧ decode b_Office_init 112 = .ok (.istore_n 1, 1) ∧ decode b_Office_init 113 = .ok (.iload_n 1, 1) ∧ decode b_Office_init 114 = .ok (.iconst 4, 1) ∧ decode b_Office_init 115 = .ok (.if_icmp .ge 22, 3) ∧ decode b_Office_init 118 = .ok (.aload_n 0, 1) ∧ decode b_Office_init 119 = .ok (.getfield 17, 3) ∧ decode b_Office_init 122 = .ok (.iload_n 1, 1) ∧ decode b_Office_init 123 = .ok (.new 15, 3) ∧ decode b_Office_init 126 = .ok (.dup, 1) ∧ decode b_Office_init 127 = .ok (.invokespecial 61, 3) ∧ decode b_Office_init 130 = .ok (.aastore, 1) ∧ decode b_Office_init 131 = .ok (.iinc 1 1, 3) ∧ decode b_Office_init 134 = .ok (.goto (-21), 3) ∧ decode b_Office_init 137 = .ok (.return_, 1) := ⟨d_Office_init_0, d_Office_init_1, d_Office_init_4, d_Office_init_5, d_Office_init_7, d_Office_init_10, d_Office_init_13, d_Office_init_14, d_Office_init_15, d_Office_init_18, d_Office_init_21, d_Office_init_22, d_Office_init_24, d_Office_init_26, d_Office_init_29, d_Office_init_30, d_Office_init_33, d_Office_init_34, d_Office_init_37, d_Office_init_40, d_Office_init_41, d_Office_init_44, d_Office_init_45, d_Office_init_48, d_Office_init_51, d_Office_init_52, d_Office_init_55, d_Office_init_56, d_Office_init_59, d_Office_init_62, d_Office_init_63, d_Office_init_66, d_Office_init_67, d_Office_init_70, d_Office_init_73, d_Office_init_74, d_Office_init_77, d_Office_init_78, d_Office_init_81, d_Office_init_84, d_Office_init_85, d_Office_init_86, d_Office_init_87, d_Office_init_89, d_Office_init_92, d_Office_init_93, d_Office_init_96, d_Office_init_97, d_Office_init_100, d_Office_init_101, d_Office_init_104, d_Office_init_105, d_Office_init_108, d_Office_init_111, d_Office_init_112, d_Office_init_113, d_Office_init_114, d_Office_init_115, d_Office_init_118, d_Office_init_119, d_Office_init_122, d_Office_init_123, d_Office_init_126, d_Office_init_127, d_Office_init_130, d_Office_init_131, d_Office_init_134, d_Office_init_137⟩
theorem i_Office_init : Cond.instanceMethod y_Office_init ∈ nm_Ts ∧ y_Office_init.name = "<init>" ∧ Cond.initialized y_Office_init.cls ∈ nm_Ts ∧ Cond.code y_Office_init b_Office_init 2 none ∈ nm_Ts ∧ mz_cl1 y_Office_init 0 := ⟨nm_t1 26 rfl rfl, rfl, nm_t1 1 rfl rfl, nm_t1 27 rfl rfl, by decide +kernel⟩
def y_FaultLight_init : MethodName := ⟨"CardOffice$FaultLight", "<init>", "()V"⟩
abbrev b_FaultLight_init : ByteArray := prog_6_method_1_code
def r_FaultLight_init (c s : Nat) : Room := { frames := 1, cells := c, slots := s, locals := 14 }
theorem d_FaultLight_init_0 : decode b_FaultLight_init 0 = .ok (.aload_n 0, 1) := by decide +kernel
theorem d_FaultLight_init_1 : decode b_FaultLight_init 1 = .ok (.invokespecial 3, 3) := by decide +kernel
theorem d_FaultLight_init_4 : decode b_FaultLight_init 4 = .ok (.aload_n 0, 1) := by decide +kernel
theorem d_FaultLight_init_5 : decode b_FaultLight_init 5 = .ok (.iconst 0, 1) := by decide +kernel
theorem d_FaultLight_init_6 : decode b_FaultLight_init 6 = .ok (.putfield 9, 3) := by decide +kernel
theorem d_FaultLight_init_9 : decode b_FaultLight_init 9 = .ok (.aload_n 0, 1) := by decide +kernel
theorem d_FaultLight_init_10 : decode b_FaultLight_init 10 = .ok (.iconst (-1), 1) := by decide +kernel
theorem d_FaultLight_init_11 : decode b_FaultLight_init 11 = .ok (.putfield 15, 3) := by decide +kernel
theorem d_FaultLight_init_14 : decode b_FaultLight_init 14 = .ok (.return_, 1) := by decide +kernel
theorem d_FaultLight_init : decode b_FaultLight_init 0 = .ok (.aload_n 0, 1) ∧ decode b_FaultLight_init 1 = .ok (.invokespecial 3, 3) ∧ decode b_FaultLight_init 4 = .ok (.aload_n 0, 1) ∧ decode b_FaultLight_init 5 = .ok (.iconst 0, 1) ∧ decode b_FaultLight_init 6 = .ok (.putfield 9, 3) ∧ decode b_FaultLight_init 9 = .ok (.aload_n 0, 1) ∧ decode b_FaultLight_init 10 = .ok (.iconst (-1), 1) ∧ decode b_FaultLight_init 11 = .ok (.putfield 15, 3) ∧ decode b_FaultLight_init 14 = .ok (.return_, 1) := ⟨d_FaultLight_init_0, d_FaultLight_init_1, d_FaultLight_init_4, d_FaultLight_init_5, d_FaultLight_init_6, d_FaultLight_init_9, d_FaultLight_init_10, d_FaultLight_init_11, d_FaultLight_init_14⟩
theorem i_FaultLight_init : Cond.instanceMethod y_FaultLight_init ∈ nm_Ts ∧ y_FaultLight_init.name = "<init>" ∧ Cond.initialized y_FaultLight_init.cls ∈ nm_Ts ∧ Cond.code y_FaultLight_init b_FaultLight_init 1 none ∈ nm_Ts ∧ mz_cl1 y_FaultLight_init 0 := ⟨nm_t1 38 rfl rfl, rfl, nm_t1 2 rfl rfl, nm_t1 39 rfl rfl, by decide +kernel⟩
def y_Sorter_init : MethodName := ⟨"CardOffice$Sorter", "<init>", "()V"⟩
abbrev b_Sorter_init : ByteArray := prog_11_method_1_code
def r_Sorter_init (c s : Nat) : Room := { frames := 1, cells := c, slots := s, locals := 14 }
theorem d_Sorter_init_0 : decode b_Sorter_init 0 = .ok (.aload_n 0, 1) := by decide +kernel
theorem d_Sorter_init_1 : decode b_Sorter_init 1 = .ok (.invokespecial 3, 3) := by decide +kernel
theorem d_Sorter_init_4 : decode b_Sorter_init 4 = .ok (.aload_n 0, 1) := by decide +kernel
theorem d_Sorter_init_5 : decode b_Sorter_init 5 = .ok (.bipush 11, 2) := by decide +kernel
theorem d_Sorter_init_7 : decode b_Sorter_init 7 = .ok (.newarray .int, 2) := by decide +kernel
theorem d_Sorter_init_9 : decode b_Sorter_init 9 = .ok (.putfield 9, 3) := by decide +kernel
theorem d_Sorter_init_12 : decode b_Sorter_init 12 = .ok (.aload_n 0, 1) := by decide +kernel
theorem d_Sorter_init_13 : decode b_Sorter_init 13 = .ok (.sipush 200, 3) := by decide +kernel
theorem d_Sorter_init_16 : decode b_Sorter_init 16 = .ok (.anewarray 15, 3) := by decide +kernel
theorem d_Sorter_init_19 : decode b_Sorter_init 19 = .ok (.putfield 17, 3) := by decide +kernel
theorem d_Sorter_init_22 : decode b_Sorter_init 22 = .ok (.return_, 1) := by decide +kernel
theorem d_Sorter_init : decode b_Sorter_init 0 = .ok (.aload_n 0, 1) ∧ decode b_Sorter_init 1 = .ok (.invokespecial 3, 3) ∧ decode b_Sorter_init 4 = .ok (.aload_n 0, 1) ∧ decode b_Sorter_init 5 = .ok (.bipush 11, 2) ∧ decode b_Sorter_init 7 = .ok (.newarray .int, 2) ∧ decode b_Sorter_init 9 = .ok (.putfield 9, 3) ∧ decode b_Sorter_init 12 = .ok (.aload_n 0, 1) ∧ decode b_Sorter_init 13 = .ok (.sipush 200, 3) ∧ decode b_Sorter_init 16 = .ok (.anewarray 15, 3) ∧ decode b_Sorter_init 19 = .ok (.putfield 17, 3) ∧ decode b_Sorter_init 22 = .ok (.return_, 1) := ⟨d_Sorter_init_0, d_Sorter_init_1, d_Sorter_init_4, d_Sorter_init_5, d_Sorter_init_7, d_Sorter_init_9, d_Sorter_init_12, d_Sorter_init_13, d_Sorter_init_16, d_Sorter_init_19, d_Sorter_init_22⟩
theorem i_Sorter_init : Cond.instanceMethod y_Sorter_init ∈ nm_Ts ∧ y_Sorter_init.name = "<init>" ∧ Cond.initialized y_Sorter_init.cls ∈ nm_Ts ∧ Cond.code y_Sorter_init b_Sorter_init 1 none ∈ nm_Ts ∧ mz_cl1 y_Sorter_init 0 := ⟨nm_t1 54 rfl rfl, rfl, nm_t1 3 rfl rfl, nm_t1 55 rfl rfl, by decide +kernel⟩
def y_Collator_init : MethodName := ⟨"CardOffice$Collator", "<init>", "()V"⟩
abbrev b_Collator_init : ByteArray := prog_4_method_1_code
def r_Collator_init (c s : Nat) : Room := { frames := 2, cells := c, slots := s, locals := 34 }
theorem d_Collator_init_0 : decode b_Collator_init 0 = .ok (.aload_n 0, 1) := by decide +kernel
theorem d_Collator_init_1 : decode b_Collator_init 1 = .ok (.invokespecial 1, 3) := by decide +kernel
theorem d_Collator_init_4 : decode b_Collator_init 4 = .ok (.aload_n 0, 1) := by decide +kernel
theorem d_Collator_init_5 : decode b_Collator_init 5 = .ok (.new 7, 3) := by decide +kernel
theorem d_Collator_init_8 : decode b_Collator_init 8 = .ok (.dup, 1) := by decide +kernel
theorem d_Collator_init_9 : decode b_Collator_init 9 = .ok (.invokespecial 9, 3) := by decide +kernel
theorem d_Collator_init_12 : decode b_Collator_init 12 = .ok (.putfield 10, 3) := by decide +kernel
theorem d_Collator_init_15 : decode b_Collator_init 15 = .ok (.aload_n 0, 1) := by decide +kernel
theorem d_Collator_init_16 : decode b_Collator_init 16 = .ok (.new 7, 3) := by decide +kernel
theorem d_Collator_init_19 : decode b_Collator_init 19 = .ok (.dup, 1) := by decide +kernel
theorem d_Collator_init_20 : decode b_Collator_init 20 = .ok (.invokespecial 9, 3) := by decide +kernel
theorem d_Collator_init_23 : decode b_Collator_init 23 = .ok (.putfield 16, 3) := by decide +kernel
theorem d_Collator_init_26 : decode b_Collator_init 26 = .ok (.return_, 1) := by decide +kernel
theorem d_Collator_init : decode b_Collator_init 0 = .ok (.aload_n 0, 1) ∧ decode b_Collator_init 1 = .ok (.invokespecial 1, 3) ∧ decode b_Collator_init 4 = .ok (.aload_n 0, 1) ∧ decode b_Collator_init 5 = .ok (.new 7, 3) ∧ decode b_Collator_init 8 = .ok (.dup, 1) ∧ decode b_Collator_init 9 = .ok (.invokespecial 9, 3) ∧ decode b_Collator_init 12 = .ok (.putfield 10, 3) ∧ decode b_Collator_init 15 = .ok (.aload_n 0, 1) ∧ decode b_Collator_init 16 = .ok (.new 7, 3) ∧ decode b_Collator_init 19 = .ok (.dup, 1) ∧ decode b_Collator_init 20 = .ok (.invokespecial 9, 3) ∧ decode b_Collator_init 23 = .ok (.putfield 16, 3) ∧ decode b_Collator_init 26 = .ok (.return_, 1) := ⟨d_Collator_init_0, d_Collator_init_1, d_Collator_init_4, d_Collator_init_5, d_Collator_init_8, d_Collator_init_9, d_Collator_init_12, d_Collator_init_15, d_Collator_init_16, d_Collator_init_19, d_Collator_init_20, d_Collator_init_23, d_Collator_init_26⟩
theorem i_Collator_init : Cond.instanceMethod y_Collator_init ∈ nm_Ts ∧ y_Collator_init.name = "<init>" ∧ Cond.initialized y_Collator_init.cls ∈ nm_Ts ∧ Cond.code y_Collator_init b_Collator_init 1 none ∈ nm_Ts ∧ mz_cl1 y_Collator_init 0 := ⟨nm_t1 73 rfl rfl, rfl, nm_t1 4 rfl rfl, nm_t1 74 rfl rfl, by decide +kernel⟩
def y_Deck_init : MethodName := ⟨"CardOffice$Deck", "<init>", "()V"⟩
abbrev b_Deck_init : ByteArray := prog_5_method_1_code
def r_Deck_init (c s : Nat) : Room := { frames := 1, cells := c, slots := s, locals := 14 }
theorem d_Deck_init_0 : decode b_Deck_init 0 = .ok (.aload_n 0, 1) := by decide +kernel
theorem d_Deck_init_1 : decode b_Deck_init 1 = .ok (.invokespecial 3, 3) := by decide +kernel
theorem d_Deck_init_4 : decode b_Deck_init 4 = .ok (.aload_n 0, 1) := by decide +kernel
theorem d_Deck_init_5 : decode b_Deck_init 5 = .ok (.sipush 200, 3) := by decide +kernel
theorem d_Deck_init_8 : decode b_Deck_init 8 = .ok (.anewarray 9, 3) := by decide +kernel
theorem d_Deck_init_11 : decode b_Deck_init 11 = .ok (.putfield 11, 3) := by decide +kernel
theorem d_Deck_init_14 : decode b_Deck_init 14 = .ok (.return_, 1) := by decide +kernel
theorem d_Deck_init : decode b_Deck_init 0 = .ok (.aload_n 0, 1) ∧ decode b_Deck_init 1 = .ok (.invokespecial 3, 3) ∧ decode b_Deck_init 4 = .ok (.aload_n 0, 1) ∧ decode b_Deck_init 5 = .ok (.sipush 200, 3) ∧ decode b_Deck_init 8 = .ok (.anewarray 9, 3) ∧ decode b_Deck_init 11 = .ok (.putfield 11, 3) ∧ decode b_Deck_init 14 = .ok (.return_, 1) := ⟨d_Deck_init_0, d_Deck_init_1, d_Deck_init_4, d_Deck_init_5, d_Deck_init_8, d_Deck_init_11, d_Deck_init_14⟩
theorem i_Deck_init : Cond.instanceMethod y_Deck_init ∈ nm_Ts ∧ y_Deck_init.name = "<init>" ∧ Cond.initialized y_Deck_init.cls ∈ nm_Ts ∧ Cond.code y_Deck_init b_Deck_init 1 none ∈ nm_Ts ∧ mz_cl1 y_Deck_init 0 := ⟨nm_t1 79 rfl rfl, rfl, nm_t1 5 rfl rfl, nm_t1 80 rfl rfl, by decide +kernel⟩
def y_Reproducer_init : MethodName := ⟨"CardOffice$Reproducer", "<init>", "()V"⟩
abbrev b_Reproducer_init : ByteArray := prog_10_method_1_code
def r_Reproducer_init (c s : Nat) : Room := { frames := 2, cells := c, slots := s, locals := 36 }
theorem d_Reproducer_init_0 : decode b_Reproducer_init 0 = .ok (.aload_n 0, 1) := by decide +kernel
theorem d_Reproducer_init_1 : decode b_Reproducer_init 1 = .ok (.invokespecial 3, 3) := by decide +kernel
theorem d_Reproducer_init_4 : decode b_Reproducer_init 4 = .ok (.aload_n 0, 1) := by decide +kernel
theorem d_Reproducer_init_5 : decode b_Reproducer_init 5 = .ok (.new 9, 3) := by decide +kernel
theorem d_Reproducer_init_8 : decode b_Reproducer_init 8 = .ok (.dup, 1) := by decide +kernel
theorem d_Reproducer_init_9 : decode b_Reproducer_init 9 = .ok (.iconst 0, 1) := by decide +kernel
theorem d_Reproducer_init_10 : decode b_Reproducer_init 10 = .ok (.bipush 16, 2) := by decide +kernel
theorem d_Reproducer_init_12 : decode b_Reproducer_init 12 = .ok (.invokespecial 11, 3) := by decide +kernel
theorem d_Reproducer_init_15 : decode b_Reproducer_init 15 = .ok (.putfield 14, 3) := by decide +kernel
theorem d_Reproducer_init_18 : decode b_Reproducer_init 18 = .ok (.return_, 1) := by decide +kernel
theorem d_Reproducer_init : decode b_Reproducer_init 0 = .ok (.aload_n 0, 1) ∧ decode b_Reproducer_init 1 = .ok (.invokespecial 3, 3) ∧ decode b_Reproducer_init 4 = .ok (.aload_n 0, 1) ∧ decode b_Reproducer_init 5 = .ok (.new 9, 3) ∧ decode b_Reproducer_init 8 = .ok (.dup, 1) ∧ decode b_Reproducer_init 9 = .ok (.iconst 0, 1) ∧ decode b_Reproducer_init 10 = .ok (.bipush 16, 2) ∧ decode b_Reproducer_init 12 = .ok (.invokespecial 11, 3) ∧ decode b_Reproducer_init 15 = .ok (.putfield 14, 3) ∧ decode b_Reproducer_init 18 = .ok (.return_, 1) := ⟨d_Reproducer_init_0, d_Reproducer_init_1, d_Reproducer_init_4, d_Reproducer_init_5, d_Reproducer_init_8, d_Reproducer_init_9, d_Reproducer_init_10, d_Reproducer_init_12, d_Reproducer_init_15, d_Reproducer_init_18⟩
theorem i_Reproducer_init : Cond.instanceMethod y_Reproducer_init ∈ nm_Ts ∧ y_Reproducer_init.name = "<init>" ∧ Cond.initialized y_Reproducer_init.cls ∈ nm_Ts ∧ Cond.code y_Reproducer_init b_Reproducer_init 1 none ∈ nm_Ts ∧ mz_cl1 y_Reproducer_init 0 := ⟨nm_t1 111 rfl rfl, rfl, nm_t1 6 rfl rfl, nm_t1 112 rfl rfl, by decide +kernel⟩
def y_Jacks_init : MethodName := ⟨"CardOffice$Jacks", "<init>", "(II)V"⟩
abbrev b_Jacks_init : ByteArray := prog_7_method_1_code
def r_Jacks_init (c s : Nat) : Room := { frames := 1, cells := c, slots := s, locals := 14 }
theorem d_Jacks_init_0 : decode b_Jacks_init 0 = .ok (.aload_n 0, 1) := by decide +kernel
theorem d_Jacks_init_1 : decode b_Jacks_init 1 = .ok (.invokespecial 3, 3) := by decide +kernel
theorem d_Jacks_init_4 : decode b_Jacks_init 4 = .ok (.aload_n 0, 1) := by decide +kernel
theorem d_Jacks_init_5 : decode b_Jacks_init 5 = .ok (.iload_n 1, 1) := by decide +kernel
theorem d_Jacks_init_6 : decode b_Jacks_init 6 = .ok (.putfield 9, 3) := by decide +kernel
theorem d_Jacks_init_9 : decode b_Jacks_init 9 = .ok (.aload_n 0, 1) := by decide +kernel
theorem d_Jacks_init_10 : decode b_Jacks_init 10 = .ok (.iload_n 2, 1) := by decide +kernel
theorem d_Jacks_init_11 : decode b_Jacks_init 11 = .ok (.newarray .int, 2) := by decide +kernel
theorem d_Jacks_init_13 : decode b_Jacks_init 13 = .ok (.putfield 15, 3) := by decide +kernel
theorem d_Jacks_init_16 : decode b_Jacks_init 16 = .ok (.return_, 1) := by decide +kernel
theorem d_Jacks_init : decode b_Jacks_init 0 = .ok (.aload_n 0, 1) ∧ decode b_Jacks_init 1 = .ok (.invokespecial 3, 3) ∧ decode b_Jacks_init 4 = .ok (.aload_n 0, 1) ∧ decode b_Jacks_init 5 = .ok (.iload_n 1, 1) ∧ decode b_Jacks_init 6 = .ok (.putfield 9, 3) ∧ decode b_Jacks_init 9 = .ok (.aload_n 0, 1) ∧ decode b_Jacks_init 10 = .ok (.iload_n 2, 1) ∧ decode b_Jacks_init 11 = .ok (.newarray .int, 2) ∧ decode b_Jacks_init 13 = .ok (.putfield 15, 3) ∧ decode b_Jacks_init 16 = .ok (.return_, 1) := ⟨d_Jacks_init_0, d_Jacks_init_1, d_Jacks_init_4, d_Jacks_init_5, d_Jacks_init_6, d_Jacks_init_9, d_Jacks_init_10, d_Jacks_init_11, d_Jacks_init_13, d_Jacks_init_16⟩
theorem i_Jacks_init : Cond.instanceMethod y_Jacks_init ∈ nm_Ts ∧ y_Jacks_init.name = "<init>" ∧ Cond.initialized y_Jacks_init.cls ∈ nm_Ts ∧ Cond.code y_Jacks_init b_Jacks_init 3 none ∈ nm_Ts ∧ mz_cl1 y_Jacks_init 2 := ⟨nm_t1 117 rfl rfl, rfl, nm_t1 7 rfl rfl, nm_t1 118 rfl rfl, by decide +kernel⟩
def y_Tabulator_init : MethodName := ⟨"CardOffice$Tabulator", "<init>", "()V"⟩
abbrev b_Tabulator_init : ByteArray := prog_12_method_1_code
def r_Tabulator_init (c s : Nat) : Room := { frames := 2, cells := c, slots := s, locals := 36 }
theorem d_Tabulator_init_0 : decode b_Tabulator_init 0 = .ok (.aload_n 0, 1) := by decide +kernel
theorem d_Tabulator_init_1 : decode b_Tabulator_init 1 = .ok (.invokespecial 3, 3) := by decide +kernel
theorem d_Tabulator_init_4 : decode b_Tabulator_init 4 = .ok (.aload_n 0, 1) := by decide +kernel
theorem d_Tabulator_init_5 : decode b_Tabulator_init 5 = .ok (.iconst 4, 1) := by decide +kernel
theorem d_Tabulator_init_6 : decode b_Tabulator_init 6 = .ok (.newarray .int, 2) := by decide +kernel
theorem d_Tabulator_init_8 : decode b_Tabulator_init 8 = .ok (.putfield 9, 3) := by decide +kernel
theorem d_Tabulator_init_11 : decode b_Tabulator_init 11 = .ok (.aload_n 0, 1) := by decide +kernel
theorem d_Tabulator_init_12 : decode b_Tabulator_init 12 = .ok (.new 15, 3) := by decide +kernel
theorem d_Tabulator_init_15 : decode b_Tabulator_init 15 = .ok (.dup, 1) := by decide +kernel
theorem d_Tabulator_init_16 : decode b_Tabulator_init 16 = .ok (.invokespecial 17, 3) := by decide +kernel
theorem d_Tabulator_init_19 : decode b_Tabulator_init 19 = .ok (.putfield 18, 3) := by decide +kernel
theorem d_Tabulator_init_22 : decode b_Tabulator_init 22 = .ok (.aload_n 0, 1) := by decide +kernel
theorem d_Tabulator_init_23 : decode b_Tabulator_init 23 = .ok (.new 22, 3) := by decide +kernel
theorem d_Tabulator_init_26 : decode b_Tabulator_init 26 = .ok (.dup, 1) := by decide +kernel
theorem d_Tabulator_init_27 : decode b_Tabulator_init 27 = .ok (.bipush 32, 2) := by decide +kernel
theorem d_Tabulator_init_29 : decode b_Tabulator_init 29 = .ok (.bipush 24, 2) := by decide +kernel
theorem d_Tabulator_init_31 : decode b_Tabulator_init 31 = .ok (.invokespecial 24, 3) := by decide +kernel
theorem d_Tabulator_init_34 : decode b_Tabulator_init 34 = .ok (.putfield 27, 3) := by decide +kernel
theorem d_Tabulator_init_37 : decode b_Tabulator_init 37 = .ok (.aload_n 0, 1) := by decide +kernel
theorem d_Tabulator_init_38 : decode b_Tabulator_init 38 = .ok (.new 22, 3) := by decide +kernel
theorem d_Tabulator_init_41 : decode b_Tabulator_init 41 = .ok (.dup, 1) := by decide +kernel
theorem d_Tabulator_init_42 : decode b_Tabulator_init 42 = .ok (.bipush 32, 2) := by decide +kernel
theorem d_Tabulator_init_44 : decode b_Tabulator_init 44 = .ok (.bipush 24, 2) := by decide +kernel
theorem d_Tabulator_init_46 : decode b_Tabulator_init 46 = .ok (.invokespecial 24, 3) := by decide +kernel
theorem d_Tabulator_init_49 : decode b_Tabulator_init 49 = .ok (.putfield 31, 3) := by decide +kernel
theorem d_Tabulator_init_52 : decode b_Tabulator_init 52 = .ok (.aload_n 0, 1) := by decide +kernel
theorem d_Tabulator_init_53 : decode b_Tabulator_init 53 = .ok (.new 22, 3) := by decide +kernel
theorem d_Tabulator_init_56 : decode b_Tabulator_init 56 = .ok (.dup, 1) := by decide +kernel
theorem d_Tabulator_init_57 : decode b_Tabulator_init 57 = .ok (.bipush 64, 2) := by decide +kernel
theorem d_Tabulator_init_59 : decode b_Tabulator_init 59 = .ok (.bipush 24, 2) := by decide +kernel
theorem d_Tabulator_init_61 : decode b_Tabulator_init 61 = .ok (.invokespecial 24, 3) := by decide +kernel
theorem d_Tabulator_init_64 : decode b_Tabulator_init 64 = .ok (.putfield 34, 3) := by decide +kernel
theorem d_Tabulator_init_67 : decode b_Tabulator_init 67 = .ok (.return_, 1) := by decide +kernel
theorem d_Tabulator_init : decode b_Tabulator_init 0 = .ok (.aload_n 0, 1) ∧ decode b_Tabulator_init 1 = .ok (.invokespecial 3, 3) ∧ decode b_Tabulator_init 4 = .ok (.aload_n 0, 1) ∧ decode b_Tabulator_init 5 = .ok (.iconst 4, 1) ∧ decode b_Tabulator_init 6 = .ok (.newarray .int, 2) ∧ decode b_Tabulator_init 8 = .ok (.putfield 9, 3) ∧ decode b_Tabulator_init 11 = .ok (.aload_n 0, 1) ∧ decode b_Tabulator_init 12 = .ok (.new 15, 3) ∧ decode b_Tabulator_init 15 = .ok (.dup, 1) ∧ decode b_Tabulator_init 16 = .ok (.invokespecial 17, 3) ∧ decode b_Tabulator_init 19 = .ok (.putfield 18, 3) ∧ decode b_Tabulator_init 22 = .ok (.aload_n 0, 1) ∧ decode b_Tabulator_init 23 = .ok (.new 22, 3) ∧ decode b_Tabulator_init 26 = .ok (.dup, 1) ∧ decode b_Tabulator_init 27 = .ok (.bipush 32, 2) ∧ decode b_Tabulator_init 29 = .ok (.bipush 24, 2) ∧ decode b_Tabulator_init 31 = .ok (.invokespecial 24, 3) ∧ decode b_Tabulator_init 34 = .ok (.putfield 27, 3) ∧ decode b_Tabulator_init 37 = .ok (.aload_n 0, 1) ∧ decode b_Tabulator_init 38 = .ok (.new 22, 3) ∧ decode b_Tabulator_init 41 = .ok (.dup, 1) ∧ decode b_Tabulator_init 42 = .ok (.bipush 32, 2) ∧ decode b_Tabulator_init 44 = .ok (.bipush 24, 2) ∧ decode b_Tabulator_init 46 = .ok (.invokespecial 24, 3) ∧ decode b_Tabulator_init 49 = .ok (.putfield 31, 3) ∧ decode b_Tabulator_init 52 = .ok (.aload_n 0, 1) ∧ decode b_Tabulator_init 53 = .ok (.new 22, 3) ∧ decode b_Tabulator_init 56 = .ok (.dup, 1) ∧ decode b_Tabulator_init 57 = .ok (.bipush 64, 2) ∧ decode b_Tabulator_init 59 = .ok (.bipush 24, 2) ∧ decode b_Tabulator_init 61 = .ok (.invokespecial 24, 3) ∧ decode b_Tabulator_init 64 = .ok (.putfield 34, 3) ∧ decode b_Tabulator_init 67 = .ok (.return_, 1) := ⟨d_Tabulator_init_0, d_Tabulator_init_1, d_Tabulator_init_4, d_Tabulator_init_5, d_Tabulator_init_6, d_Tabulator_init_8, d_Tabulator_init_11, d_Tabulator_init_12, d_Tabulator_init_15, d_Tabulator_init_16, d_Tabulator_init_19, d_Tabulator_init_22, d_Tabulator_init_23, d_Tabulator_init_26, d_Tabulator_init_27, d_Tabulator_init_29, d_Tabulator_init_31, d_Tabulator_init_34, d_Tabulator_init_37, d_Tabulator_init_38, d_Tabulator_init_41, d_Tabulator_init_42, d_Tabulator_init_44, d_Tabulator_init_46, d_Tabulator_init_49, d_Tabulator_init_52, d_Tabulator_init_53, d_Tabulator_init_56, d_Tabulator_init_57, d_Tabulator_init_59, d_Tabulator_init_61, d_Tabulator_init_64, d_Tabulator_init_67⟩
theorem i_Tabulator_init : Cond.instanceMethod y_Tabulator_init ∈ nm_Ts ∧ y_Tabulator_init.name = "<init>" ∧ Cond.initialized y_Tabulator_init.cls ∈ nm_Ts ∧ Cond.code y_Tabulator_init b_Tabulator_init 1 none ∈ nm_Ts ∧ mz_cl1 y_Tabulator_init 0 := ⟨nm_t1 140 rfl rfl, rfl, nm_t1 8 rfl rfl, nm_t1 141 rfl rfl, by decide +kernel⟩
def y_Paper_init : MethodName := ⟨"CardOffice$Paper", "<init>", "()V"⟩
abbrev b_Paper_init : ByteArray := prog_9_method_1_code
def r_Paper_init (c s : Nat) : Room := { frames := 1, cells := c, slots := s, locals := 14 }
theorem d_Paper_init_0 : decode b_Paper_init 0 = .ok (.aload_n 0, 1) := by decide +kernel
theorem d_Paper_init_1 : decode b_Paper_init 1 = .ok (.invokespecial 3, 3) := by decide +kernel
theorem d_Paper_init_4 : decode b_Paper_init 4 = .ok (.aload_n 0, 1) := by decide +kernel
theorem d_Paper_init_5 : decode b_Paper_init 5 = .ok (.bipush 100, 2) := by decide +kernel
theorem d_Paper_init_7 : decode b_Paper_init 7 = .ok (.bipush 24, 2) := by decide +kernel
theorem d_Paper_init_9 : decode b_Paper_init 9 = .ok (.multianewarray 9 2, 4) := by decide +kernel
theorem d_Paper_init_13 : decode b_Paper_init 13 = .ok (.putfield 11, 3) := by decide +kernel
theorem d_Paper_init_16 : decode b_Paper_init 16 = .ok (.return_, 1) := by decide +kernel
theorem d_Paper_init : decode b_Paper_init 0 = .ok (.aload_n 0, 1) ∧ decode b_Paper_init 1 = .ok (.invokespecial 3, 3) ∧ decode b_Paper_init 4 = .ok (.aload_n 0, 1) ∧ decode b_Paper_init 5 = .ok (.bipush 100, 2) ∧ decode b_Paper_init 7 = .ok (.bipush 24, 2) ∧ decode b_Paper_init 9 = .ok (.multianewarray 9 2, 4) ∧ decode b_Paper_init 13 = .ok (.putfield 11, 3) ∧ decode b_Paper_init 16 = .ok (.return_, 1) := ⟨d_Paper_init_0, d_Paper_init_1, d_Paper_init_4, d_Paper_init_5, d_Paper_init_7, d_Paper_init_9, d_Paper_init_13, d_Paper_init_16⟩
theorem i_Paper_init : Cond.instanceMethod y_Paper_init ∈ nm_Ts ∧ y_Paper_init.name = "<init>" ∧ Cond.initialized y_Paper_init.cls ∈ nm_Ts ∧ Cond.code y_Paper_init b_Paper_init 1 none ∈ nm_Ts ∧ mz_cl1 y_Paper_init 0 := ⟨nm_t1 146 rfl rfl, rfl, nm_t1 9 rfl rfl, nm_t1 147 rfl rfl, by decide +kernel⟩
def y_Board_init : MethodName := ⟨"CardOffice$Board", "<init>", "()V"⟩
abbrev b_Board_init : ByteArray := prog_2_method_1_code
def r_Board_init (c s : Nat) : Room := { frames := 1, cells := c, slots := s, locals := 23 }
theorem d_Board_init_0 : decode b_Board_init 0 = .ok (.aload_n 0, 1) := by decide +kernel
theorem d_Board_init_1 : decode b_Board_init 1 = .ok (.invokespecial 3, 3) := by decide +kernel
theorem d_Board_init_4 : decode b_Board_init 4 = .ok (.aload_n 0, 1) := by decide +kernel
theorem d_Board_init_5 : decode b_Board_init 5 = .ok (.bipush 40, 2) := by decide +kernel
theorem d_Board_init_7 : decode b_Board_init 7 = .ok (.newarray .int, 2) := by decide +kernel
theorem d_Board_init_9 : decode b_Board_init 9 = .ok (.putfield 9, 3) := by decide +kernel
theorem d_Board_init_12 : decode b_Board_init 12 = .ok (.aload_n 0, 1) := by decide +kernel
theorem d_Board_init_13 : decode b_Board_init 13 = .ok (.bipush 40, 2) := by decide +kernel
theorem d_Board_init_15 : decode b_Board_init 15 = .ok (.newarray .int, 2) := by decide +kernel
theorem d_Board_init_17 : decode b_Board_init 17 = .ok (.putfield 15, 3) := by decide +kernel
theorem d_Board_init_20 : decode b_Board_init 20 = .ok (.aload_n 0, 1) := by decide +kernel
theorem d_Board_init_21 : decode b_Board_init 21 = .ok (.iconst 4, 1) := by decide +kernel
theorem d_Board_init_22 : decode b_Board_init 22 = .ok (.newarray .int, 2) := by decide +kernel
theorem d_Board_init_24 : decode b_Board_init 24 = .ok (.putfield 18, 3) := by decide +kernel
theorem d_Board_init_27 : decode b_Board_init 27 = .ok (.aload_n 0, 1) := by decide +kernel
theorem d_Board_init_28 : decode b_Board_init 28 = .ok (.getfield 18, 3) := by decide +kernel
theorem d_Board_init_31 : decode b_Board_init 31 = .ok (.iconst 3, 1) := by decide +kernel
theorem d_Board_init_32 : decode b_Board_init 32 = .ok (.invokestatic 21, 3) := by decide +kernel
theorem d_Board_init_35 : decode b_Board_init 35 = .ok (.return_, 1) := by decide +kernel
theorem d_Board_init : decode b_Board_init 0 = .ok (.aload_n 0, 1) ∧ decode b_Board_init 1 = .ok (.invokespecial 3, 3) ∧ decode b_Board_init 4 = .ok (.aload_n 0, 1) ∧ decode b_Board_init 5 = .ok (.bipush 40, 2) ∧ decode b_Board_init 7 = .ok (.newarray .int, 2) ∧ decode b_Board_init 9 = .ok (.putfield 9, 3) ∧ decode b_Board_init 12 = .ok (.aload_n 0, 1) ∧ decode b_Board_init 13 = .ok (.bipush 40, 2) ∧ decode b_Board_init 15 = .ok (.newarray .int, 2) ∧ decode b_Board_init 17 = .ok (.putfield 15, 3) ∧ decode b_Board_init 20 = .ok (.aload_n 0, 1) ∧ decode b_Board_init 21 = .ok (.iconst 4, 1) ∧ decode b_Board_init 22 = .ok (.newarray .int, 2) ∧ decode b_Board_init 24 = .ok (.putfield 18, 3) ∧ decode b_Board_init 27 = .ok (.aload_n 0, 1) ∧ decode b_Board_init 28 = .ok (.getfield 18, 3) ∧ decode b_Board_init 31 = .ok (.iconst 3, 1) ∧ decode b_Board_init 32 = .ok (.invokestatic 21, 3) ∧ decode b_Board_init 35 = .ok (.return_, 1) := ⟨d_Board_init_0, d_Board_init_1, d_Board_init_4, d_Board_init_5, d_Board_init_7, d_Board_init_9, d_Board_init_12, d_Board_init_13, d_Board_init_15, d_Board_init_17, d_Board_init_20, d_Board_init_21, d_Board_init_22, d_Board_init_24, d_Board_init_27, d_Board_init_28, d_Board_init_31, d_Board_init_32, d_Board_init_35⟩
theorem i_Board_init : Cond.instanceMethod y_Board_init ∈ nm_Ts ∧ y_Board_init.name = "<init>" ∧ Cond.initialized y_Board_init.cls ∈ nm_Ts ∧ Cond.code y_Board_init b_Board_init 1 none ∈ nm_Ts ∧ mz_cl1 y_Board_init 0 := ⟨nm_t1 183 rfl rfl, rfl, nm_t1 10 rfl rfl, nm_t1 184 rfl rfl, by decide +kernel⟩
def y_Arrays_fill : MethodName := ⟨"java/util/Arrays", "fill", "([II)V"⟩
abbrev b_Arrays_fill : ByteArray := prog_24_method_103_code
def r_Arrays_fill (c s : Nat) : Room := { frames := 0, cells := c, slots := s, locals := 0 }
theorem d_Arrays_fill_0 : decode b_Arrays_fill 0 = .ok (.iconst 0, 1) := by decide +kernel
theorem d_Arrays_fill_1 : decode b_Arrays_fill 1 = .ok (.istore_n 2, 1) := by decide +kernel
theorem d_Arrays_fill_2 : decode b_Arrays_fill 2 = .ok (.aload_n 0, 1) := by decide +kernel
theorem d_Arrays_fill_3 : decode b_Arrays_fill 3 = .ok (.arraylength, 1) := by decide +kernel
theorem d_Arrays_fill_4 : decode b_Arrays_fill 4 = .ok (.istore_n 3, 1) := by decide +kernel
theorem d_Arrays_fill_5 : decode b_Arrays_fill 5 = .ok (.iload_n 2, 1) := by decide +kernel
theorem d_Arrays_fill_6 : decode b_Arrays_fill 6 = .ok (.iload_n 3, 1) := by decide +kernel
theorem d_Arrays_fill_7 : decode b_Arrays_fill 7 = .ok (.if_icmp .ge 13, 3) := by decide +kernel
theorem d_Arrays_fill_10 : decode b_Arrays_fill 10 = .ok (.aload_n 0, 1) := by decide +kernel
theorem d_Arrays_fill_11 : decode b_Arrays_fill 11 = .ok (.iload_n 2, 1) := by decide +kernel
theorem d_Arrays_fill_12 : decode b_Arrays_fill 12 = .ok (.iload_n 1, 1) := by decide +kernel
theorem d_Arrays_fill_13 : decode b_Arrays_fill 13 = .ok (.iastore, 1) := by decide +kernel
theorem d_Arrays_fill_14 : decode b_Arrays_fill 14 = .ok (.iinc 2 1, 3) := by decide +kernel
theorem d_Arrays_fill_17 : decode b_Arrays_fill 17 = .ok (.goto (-12), 3) := by decide +kernel
theorem d_Arrays_fill_20 : decode b_Arrays_fill 20 = .ok (.return_, 1) := by decide +kernel
theorem s_Arrays_fill : Cond.static y_Arrays_fill ∈ nm_Ts ∧ Cond.initialized y_Arrays_fill.cls ∈ nm_Ts ∧ Cond.code y_Arrays_fill b_Arrays_fill 4 none ∈ nm_Ts ∧ mz_cl1 y_Arrays_fill 2 := ⟨nm_t1 187 rfl rfl, nm_t1 11 rfl rfl, nm_t1 188 rfl rfl, by decide +kernel⟩
def y_Office_card : MethodName := ⟨"CardOffice", "card", "(IJJ)Z"⟩
abbrev b_Office_card : ByteArray := prog_1_method_2_code
def r_Office_card (c s : Nat) : Room := { frames := 2, cells := c, slots := s, locals := 45 }
theorem d_Office_card_0 : decode b_Office_card 0 = .ok (.iload_n 1, 1) := by decide +kernel
theorem d_Office_card_1 : decode b_Office_card 1 = .ok (.invokestatic 62, 3) := by decide +kernel
theorem d_Office_card_4 : decode b_Office_card 4 = .ok (.ifCond .eq 13, 3) := by decide +kernel
theorem d_Office_card_7 : decode b_Office_card 7 = .ok (.aload_n 0, 1) := by decide +kernel
theorem d_Office_card_8 : decode b_Office_card 8 = .ok (.invokevirtual 66, 3) := by decide +kernel
theorem d_Office_card_11 : decode b_Office_card 11 = .ok (.sipush 200, 3) := by decide +kernel
theorem d_Office_card_14 : decode b_Office_card 14 = .ok (.if_icmp .lt 5, 3) := by decide +kernel
theorem d_Office_card_17 : decode b_Office_card 17 = .ok (.iconst 0, 1) := by decide +kernel
theorem d_Office_card_18 : decode b_Office_card 18 = .ok (.ireturn, 1) := by decide +kernel
theorem d_Office_card_19 : decode b_Office_card 19 = .ok (.aload_n 0, 1) := by decide +kernel
theorem d_Office_card_20 : decode b_Office_card 20 = .ok (.lload_n 2, 1) := by decide +kernel
theorem d_Office_card_21 : decode b_Office_card 21 = .ok (.iconst 0, 1) := by decide +kernel
theorem d_Office_card_22 : decode b_Office_card 22 = .ok (.invokevirtual 70, 3) := by decide +kernel
theorem d_Office_card_25 : decode b_Office_card 25 = .ok (.ifCond .eq 14, 3) := by decide +kernel
theorem d_Office_card_28 : decode b_Office_card 28 = .ok (.aload_n 0, 1) := by decide +kernel
theorem d_Office_card_29 : decode b_Office_card 29 = .ok (.lload 4, 2) := by decide +kernel
theorem d_Office_card_31 : decode b_Office_card 31 = .ok (.bipush 8, 2) := by decide +kernel
theorem d_Office_card_33 : decode b_Office_card 33 = .ok (.invokevirtual 70, 3) := by decide +kernel
theorem d_Office_card_36 : decode b_Office_card 36 = .ok (.ifCond .ne 5, 3) := by decide +kernel
theorem d_Office_card_39 : decode b_Office_card 39 = .ok (.iconst 0, 1) := by decide +kernel
theorem d_Office_card_40 : decode b_Office_card 40 = .ok (.ireturn, 1) := by decide +kernel
theorem d_Office_card_41 : decode b_Office_card 41 = .ok (.new 74, 3) := by decide +kernel
theorem d_Office_card_44 : decode b_Office_card 44 = .ok (.dup, 1) := by decide +kernel
theorem d_Office_card_45 : decode b_Office_card 45 = .ok (.invokespecial 76, 3) := by decide +kernel
theorem d_Office_card_48 : decode b_Office_card 48 = .ok (.astore 6, 2) := by decide +kernel
theorem d_Office_card_50 : decode b_Office_card 50 = .ok (.iconst 0, 1) := by decide +kernel
theorem d_Office_card_51 : decode b_Office_card 51 = .ok (.istore 7, 2) := by decide +kernel
theorem d_Office_card_53 : decode b_Office_card 53 = .ok (.iload 7, 2) := by decide +kernel
theorem d_Office_card_55 : decode b_Office_card 55 = .ok (.bipush 16, 2) := by decide +kernel
theorem d_Office_card_57 : decode b_Office_card 57 = .ok (.if_icmp .ge 24, 3) := by decide +kernel
theorem d_Office_card_60 : decode b_Office_card 60 = .ok (.aload 6, 2) := by decide +kernel
theorem d_Office_card_62 : decode b_Office_card 62 = .ok (.getfield 77, 3) := by decide +kernel
theorem d_Office_card_65 : decode b_Office_card 65 = .ok (.iload 7, 2) := by decide +kernel
theorem d_Office_card_67 : decode b_Office_card 67 = .ok (.aload_n 0, 1) := by decide +kernel
theorem d_Office_card_68 : decode b_Office_card 68 = .ok (.getfield 21, 3) := by decide +kernel
theorem d_Office_card_71 : decode b_Office_card 71 = .ok (.iload 7, 2) := by decide +kernel
theorem d_Office_card_73 : decode b_Office_card 73 = .ok (.iaload, 1) := by decide +kernel
theorem d_Office_card_74 : decode b_Office_card 74 = .ok (.iastore, 1) := by decide +kernel
theorem d_Office_card_75 : decode b_Office_card 75 = .ok (.iinc 7 1, 3) := by decide +kernel
theorem d_Office_card_78 : decode b_Office_card 78 = .ok (.goto (-25), 3) := by decide +kernel
theorem d_Office_card_81 : decode b_Office_card 81 = .ok (.aload_n 0, 1) := by decide +kernel
theorem d_Office_card_82 : decode b_Office_card 82 = .ok (.getfield 11, 3) := by decide +kernel
theorem d_Office_card_85 : decode b_Office_card 85 = .ok (.iload_n 1, 1) := by decide +kernel
theorem d_Office_card_86 : decode b_Office_card 86 = .ok (.aaload, 1) := by decide +kernel
theorem d_Office_card_87 : decode b_Office_card 87 = .ok (.aload 6, 2) := by decide +kernel
theorem d_Office_card_89 : decode b_Office_card 89 = .ok (.invokevirtual 80, 3) := by decide +kernel
theorem d_Office_card_92 : decode b_Office_card 92 = .ok (.iconst 1, 1) := by decide +kernel
theorem d_Office_card_93 : decode b_Office_card 93 = .ok (.ireturn, 1) := by decide +kernel
theorem d_Office_card : decode b_Office_card 0 = .ok (.iload_n 1, 1) ∧ decode b_Office_card 1 = .ok (.invokestatic 62, 3) ∧ decode b_Office_card 4 = .ok (.ifCond .eq 13, 3) ∧ decode b_Office_card 7 = .ok (.aload_n 0, 1) ∧ decode b_Office_card 8 = .ok (.invokevirtual 66, 3) ∧ decode b_Office_card 11 = .ok (.sipush 200, 3) ∧ decode b_Office_card 14 = .ok (.if_icmp .lt 5, 3) ∧ decode b_Office_card 17 = .ok (.iconst 0, 1) ∧ decode b_Office_card 18 = .ok (.ireturn, 1) ∧ decode b_Office_card 19 = .ok (.aload_n 0, 1) ∧ decode b_Office_card 20 = .ok (.lload_n 2, 1) ∧ decode b_Office_card 21 = .ok (.iconst 0, 1) ∧ decode b_Office_card 22 = .ok (.invokevirtual 70, 3) ∧ decode b_Office_card 25 = .ok (.ifCond .eq 14, 3) ∧ decode b_Office_card 28 = .ok (.aload_n 0, 1) ∧ decode b_Office_card 29 = .ok (.lload 4, 2) ∧ decode b_Office_card 31 = .ok (.bipush 8, 2) ∧ decode b_Office_card 33 = .ok (.invokevirtual 70, 3) ∧ decode b_Office_card 36 = .ok (.ifCond .ne 5, 3) ∧ decode b_Office_card 39 = .ok (.iconst 0, 1) ∧ decode b_Office_card 40 = .ok (.ireturn, 1) ∧ decode b_Office_card 41 = .ok (.new 74, 3) ∧ decode b_Office_card 44 = .ok (.dup, 1) ∧ decode b_Office_card 45 = .ok (.invokespecial 76, 3) ∧ decode b_Office_card 48 = .ok (.astore 6, 2) ∧ decode b_Office_card 50 = .ok (.iconst 0, 1) ∧ decode b_Office_card 51 = .ok (.istore 7, 2) ∧ decode b_Office_card 53 = .ok (.iload 7, 2) ∧ decode b_Office_card 55 = .ok (.bipush 16, 2) ∧ decode b_Office_card 57 = .ok (.if_icmp .ge 24, 3) ∧ decode b_Office_card 60 = .ok (.aload 6, 2) ∧ decode b_Office_card 62 = .ok (.getfield 77, 3) ∧ decode b_Office_card 65 = .ok (.iload 7, 2) ∧ decode b_Office_card 67 = .ok (.aload_n 0, 1) ∧ decode b_Office_card 68 = .ok (.getfield 21, 3) ∧ decode b_Office_card 71 = .ok (.iload 7, 2) ∧ decode b_Office_card 73 = .ok (.iaload, 1) ∧ decode b_Office_card 74 = .ok (.iastore, 1) ∧ decode b_Office_card 75 = .ok (.iinc 7 1, 3) ∧ decode b_Office_card 78 = .ok (.goto (-25), 3) ∧ decode b_Office_card 81 = .ok (.aload_n 0, 1) ∧ decode b_Office_card 82 = .ok (.getfield 11, 3) ∧ decode b_Office_card 85 = .ok (.iload_n 1, 1) ∧ decode b_Office_card 86 = .ok (.aaload, 1) ∧ decode b_Office_card 87 = .ok (.aload 6, 2) ∧ decode b_Office_card 89 = .ok (.invokevirtual 80, 3) ∧ decode b_Office_card 92 = .ok (.iconst 1, 1) ∧ decode b_Office_card 93 = .ok (.ireturn, 1) := ⟨d_Office_card_0, d_Office_card_1, d_Office_card_4, d_Office_card_7, d_Office_card_8, d_Office_card_11, d_Office_card_14, d_Office_card_17, d_Office_card_18, d_Office_card_19, d_Office_card_20, d_Office_card_21, d_Office_card_22, d_Office_card_25, d_Office_card_28, d_Office_card_29, d_Office_card_31, d_Office_card_33, d_Office_card_36, d_Office_card_39, d_Office_card_40, d_Office_card_41, d_Office_card_44, d_Office_card_45, d_Office_card_48, d_Office_card_50, d_Office_card_51, d_Office_card_53, d_Office_card_55, d_Office_card_57, d_Office_card_60, d_Office_card_62, d_Office_card_65, d_Office_card_67, d_Office_card_68, d_Office_card_71, d_Office_card_73, d_Office_card_74, d_Office_card_75, d_Office_card_78, d_Office_card_81, d_Office_card_82, d_Office_card_85, d_Office_card_86, d_Office_card_87, d_Office_card_89, d_Office_card_92, d_Office_card_93⟩
theorem v_Office_card : Cond.instanceMethod y_Office_card ∈ nm_Ts ∧ Cond.selects y_Office_card.cls y_Office_card y_Office_card ∈ nm_Ts ∧ Cond.initialized y_Office_card.cls ∈ nm_Ts ∧ Cond.code y_Office_card b_Office_card 8 (some .boolean) ∈ nm_Ts ∧ mz_cl1 y_Office_card 3 := ⟨nm_t1 231 rfl rfl, nm_t1 232 rfl rfl, nm_t1 1 rfl rfl, nm_t1 233 rfl rfl, by decide +kernel⟩
def y_Office_isDeck : MethodName := ⟨"CardOffice", "isDeck", "(I)Z"⟩
abbrev b_Office_isDeck : ByteArray := prog_1_method_21_code
def r_Office_isDeck (c s : Nat) : Room := { frames := 0, cells := c, slots := s, locals := 0 }
theorem d_Office_isDeck_0 : decode b_Office_isDeck 0 = .ok (.iload_n 0, 1) := by decide +kernel
theorem d_Office_isDeck_1 : decode b_Office_isDeck 1 = .ok (.ifCond .lt 13, 3) := by decide +kernel
theorem d_Office_isDeck_4 : decode b_Office_isDeck 4 = .ok (.iload_n 0, 1) := by decide +kernel
theorem d_Office_isDeck_5 : decode b_Office_isDeck 5 = .ok (.bipush 8, 2) := by decide +kernel
theorem d_Office_isDeck_7 : decode b_Office_isDeck 7 = .ok (.if_icmp .ge 7, 3) := by decide +kernel
theorem d_Office_isDeck_10 : decode b_Office_isDeck 10 = .ok (.iconst 1, 1) := by decide +kernel
theorem d_Office_isDeck_11 : decode b_Office_isDeck 11 = .ok (.goto 4, 3) := by decide +kernel
theorem d_Office_isDeck_14 : decode b_Office_isDeck 14 = .ok (.iconst 0, 1) := by decide +kernel
theorem d_Office_isDeck_15 : decode b_Office_isDeck 15 = .ok (.ireturn, 1) := by decide +kernel
theorem s_Office_isDeck : Cond.static y_Office_isDeck ∈ nm_Ts ∧ Cond.initialized y_Office_isDeck.cls ∈ nm_Ts ∧ Cond.code y_Office_isDeck b_Office_isDeck 1 (some .boolean) ∈ nm_Ts ∧ mz_cl1 y_Office_isDeck 1 := ⟨nm_t1 235 rfl rfl, nm_t1 1 rfl rfl, nm_t1 236 rfl rfl, by decide +kernel⟩
def y_Office_cardsInAll : MethodName := ⟨"CardOffice", "cardsInAll", "()I"⟩
abbrev b_Office_cardsInAll : ByteArray := prog_1_method_34_code
def r_Office_cardsInAll (c s : Nat) : Room := { frames := 0, cells := c, slots := s, locals := 0 }
theorem d_Office_cardsInAll_0 : decode b_Office_cardsInAll 0 = .ok (.iconst 0, 1) := by decide +kernel
theorem d_Office_cardsInAll_1 : decode b_Office_cardsInAll 1 = .ok (.istore_n 1, 1) := by decide +kernel
theorem d_Office_cardsInAll_2 : decode b_Office_cardsInAll 2 = .ok (.iconst 0, 1) := by decide +kernel
theorem d_Office_cardsInAll_3 : decode b_Office_cardsInAll 3 = .ok (.istore_n 2, 1) := by decide +kernel
theorem d_Office_cardsInAll_4 : decode b_Office_cardsInAll 4 = .ok (.iload_n 2, 1) := by decide +kernel
theorem d_Office_cardsInAll_5 : decode b_Office_cardsInAll 5 = .ok (.bipush 8, 2) := by decide +kernel
theorem d_Office_cardsInAll_7 : decode b_Office_cardsInAll 7 = .ok (.if_icmp .ge 21, 3) := by decide +kernel
theorem d_Office_cardsInAll_10 : decode b_Office_cardsInAll 10 = .ok (.iload_n 1, 1) := by decide +kernel
theorem d_Office_cardsInAll_11 : decode b_Office_cardsInAll 11 = .ok (.aload_n 0, 1) := by decide +kernel
theorem d_Office_cardsInAll_12 : decode b_Office_cardsInAll 12 = .ok (.getfield 11, 3) := by decide +kernel
theorem d_Office_cardsInAll_15 : decode b_Office_cardsInAll 15 = .ok (.iload_n 2, 1) := by decide +kernel
theorem d_Office_cardsInAll_16 : decode b_Office_cardsInAll 16 = .ok (.aaload, 1) := by decide +kernel
theorem d_Office_cardsInAll_17 : decode b_Office_cardsInAll 17 = .ok (.getfield 183, 3) := by decide +kernel
theorem d_Office_cardsInAll_20 : decode b_Office_cardsInAll 20 = .ok (.iadd, 1) := by decide +kernel
theorem d_Office_cardsInAll_21 : decode b_Office_cardsInAll 21 = .ok (.istore_n 1, 1) := by decide +kernel
theorem d_Office_cardsInAll_22 : decode b_Office_cardsInAll 22 = .ok (.iinc 2 1, 3) := by decide +kernel
theorem d_Office_cardsInAll_25 : decode b_Office_cardsInAll 25 = .ok (.goto (-21), 3) := by decide +kernel
theorem d_Office_cardsInAll_28 : decode b_Office_cardsInAll 28 = .ok (.iload_n 1, 1) := by decide +kernel
theorem d_Office_cardsInAll_29 : decode b_Office_cardsInAll 29 = .ok (.ireturn, 1) := by decide +kernel
theorem v_Office_cardsInAll : Cond.instanceMethod y_Office_cardsInAll ∈ nm_Ts ∧ Cond.selects y_Office_cardsInAll.cls y_Office_cardsInAll y_Office_cardsInAll ∈ nm_Ts ∧ Cond.initialized y_Office_cardsInAll.cls ∈ nm_Ts ∧ Cond.code y_Office_cardsInAll b_Office_cardsInAll 3 (some .int) ∈ nm_Ts ∧ mz_cl1 y_Office_cardsInAll 0 := ⟨nm_t1 239 rfl rfl, nm_s 0 rfl rfl, nm_t1 1 rfl rfl, nm_t2 0 rfl rfl, by decide +kernel⟩
def y_Office_readColumns : MethodName := ⟨"CardOffice", "readColumns", "(JI)Z"⟩
abbrev b_Office_readColumns : ByteArray := prog_1_method_35_code
def r_Office_readColumns (c s : Nat) : Room := { frames := 1, cells := c, slots := s, locals := 20 }
theorem d_Office_readColumns_0 : decode b_Office_readColumns 0 = .ok (.iconst 0, 1) := by decide +kernel
theorem d_Office_readColumns_1 : decode b_Office_readColumns 1 = .ok (.istore 4, 2) := by decide +kernel
theorem d_Office_readColumns_3 : decode b_Office_readColumns 3 = .ok (.iload 4, 2) := by decide +kernel
theorem d_Office_readColumns_5 : decode b_Office_readColumns 5 = .ok (.bipush 8, 2) := by decide +kernel
theorem d_Office_readColumns_7 : decode b_Office_readColumns 7 = .ok (.if_icmp .ge 47, 3) := by decide +kernel
theorem d_Office_readColumns_10 : decode b_Office_readColumns 10 = .ok (.lload_n 1, 1) := by decide +kernel
theorem d_Office_readColumns_11 : decode b_Office_readColumns 11 = .ok (.bipush 56, 2) := by decide +kernel
theorem d_Office_readColumns_13 : decode b_Office_readColumns 13 = .ok (.bipush 8, 2) := by decide +kernel
theorem d_Office_readColumns_15 : decode b_Office_readColumns 15 = .ok (.iload 4, 2) := by decide +kernel
theorem d_Office_readColumns_17 : decode b_Office_readColumns 17 = .ok (.imul, 1) := by decide +kernel
theorem d_Office_readColumns_18 : decode b_Office_readColumns 18 = .ok (.isub, 1) := by decide +kernel
theorem d_Office_readColumns_19 : decode b_Office_readColumns 19 = .ok (.lushr, 1) := by decide +kernel
theorem d_Office_readColumns_20 : decode b_Office_readColumns 20 = .ok (.l2i, 1) := by decide +kernel
theorem d_Office_readColumns_21 : decode b_Office_readColumns 21 = .ok (.sipush 255, 3) := by decide +kernel
theorem d_Office_readColumns_24 : decode b_Office_readColumns 24 = .ok (.iand, 1) := by decide +kernel
theorem d_Office_readColumns_25 : decode b_Office_readColumns 25 = .ok (.istore 5, 2) := by decide +kernel
theorem d_Office_readColumns_27 : decode b_Office_readColumns 27 = .ok (.iload 5, 2) := by decide +kernel
theorem d_Office_readColumns_29 : decode b_Office_readColumns 29 = .ok (.invokestatic 244, 3) := by decide +kernel
theorem d_Office_readColumns_32 : decode b_Office_readColumns 32 = .ok (.ifCond .ne 5, 3) := by decide +kernel
theorem d_Office_readColumns_35 : decode b_Office_readColumns 35 = .ok (.iconst 0, 1) := by decide +kernel
theorem d_Office_readColumns_36 : decode b_Office_readColumns 36 = .ok (.ireturn, 1) := by decide +kernel
theorem d_Office_readColumns_37 : decode b_Office_readColumns 37 = .ok (.aload_n 0, 1) := by decide +kernel
theorem d_Office_readColumns_38 : decode b_Office_readColumns 38 = .ok (.getfield 21, 3) := by decide +kernel
theorem d_Office_readColumns_41 : decode b_Office_readColumns 41 = .ok (.iload_n 3, 1) := by decide +kernel
theorem d_Office_readColumns_42 : decode b_Office_readColumns 42 = .ok (.iload 4, 2) := by decide +kernel
theorem d_Office_readColumns_44 : decode b_Office_readColumns 44 = .ok (.iadd, 1) := by decide +kernel
theorem d_Office_readColumns_45 : decode b_Office_readColumns 45 = .ok (.iload 5, 2) := by decide +kernel
theorem d_Office_readColumns_47 : decode b_Office_readColumns 47 = .ok (.iastore, 1) := by decide +kernel
theorem d_Office_readColumns_48 : decode b_Office_readColumns 48 = .ok (.iinc 4 1, 3) := by decide +kernel
theorem d_Office_readColumns_51 : decode b_Office_readColumns 51 = .ok (.goto (-48), 3) := by decide +kernel
theorem d_Office_readColumns_54 : decode b_Office_readColumns 54 = .ok (.iconst 1, 1) := by decide +kernel
theorem d_Office_readColumns_55 : decode b_Office_readColumns 55 = .ok (.ireturn, 1) := by decide +kernel
theorem v_Office_readColumns : Cond.instanceMethod y_Office_readColumns ∈ nm_Ts ∧ Cond.selects y_Office_readColumns.cls y_Office_readColumns y_Office_readColumns ∈ nm_Ts ∧ Cond.initialized y_Office_readColumns.cls ∈ nm_Ts ∧ Cond.code y_Office_readColumns b_Office_readColumns 6 (some .boolean) ∈ nm_Ts ∧ mz_cl1 y_Office_readColumns 2 := ⟨nm_t2 3 rfl rfl, nm_s 1 rfl rfl, nm_t1 1 rfl rfl, nm_t2 4 rfl rfl, by decide +kernel⟩
def y_Office_isSign : MethodName := ⟨"CardOffice", "isSign", "(I)Z"⟩
abbrev b_Office_isSign : ByteArray := prog_1_method_36_code
def r_Office_isSign (c s : Nat) : Room := { frames := 0, cells := c, slots := s, locals := 0 }
theorem d_Office_isSign_0 : decode b_Office_isSign 0 = .ok (.iload_n 0, 1) := by decide +kernel
theorem d_Office_isSign_1 : decode b_Office_isSign 1 = .ok (.bipush 32, 2) := by decide +kernel
theorem d_Office_isSign_3 : decode b_Office_isSign 3 = .ok (.if_icmp .eq 27, 3) := by decide +kernel
theorem d_Office_isSign_6 : decode b_Office_isSign 6 = .ok (.iload_n 0, 1) := by decide +kernel
theorem d_Office_isSign_7 : decode b_Office_isSign 7 = .ok (.bipush 48, 2) := by decide +kernel
theorem d_Office_isSign_9 : decode b_Office_isSign 9 = .ok (.if_icmp .lt 9, 3) := by decide +kernel
theorem d_Office_isSign_12 : decode b_Office_isSign 12 = .ok (.iload_n 0, 1) := by decide +kernel
theorem d_Office_isSign_13 : decode b_Office_isSign 13 = .ok (.bipush 57, 2) := by decide +kernel
theorem d_Office_isSign_15 : decode b_Office_isSign 15 = .ok (.if_icmp .le 15, 3) := by decide +kernel
theorem d_Office_isSign_18 : decode b_Office_isSign 18 = .ok (.iload_n 0, 1) := by decide +kernel
theorem d_Office_isSign_19 : decode b_Office_isSign 19 = .ok (.bipush 65, 2) := by decide +kernel
theorem d_Office_isSign_21 : decode b_Office_isSign 21 = .ok (.if_icmp .lt 13, 3) := by decide +kernel
theorem d_Office_isSign_24 : decode b_Office_isSign 24 = .ok (.iload_n 0, 1) := by decide +kernel
theorem d_Office_isSign_25 : decode b_Office_isSign 25 = .ok (.bipush 90, 2) := by decide +kernel
theorem d_Office_isSign_27 : decode b_Office_isSign 27 = .ok (.if_icmp .gt 7, 3) := by decide +kernel
theorem d_Office_isSign_30 : decode b_Office_isSign 30 = .ok (.iconst 1, 1) := by decide +kernel
theorem d_Office_isSign_31 : decode b_Office_isSign 31 = .ok (.goto 4, 3) := by decide +kernel
theorem d_Office_isSign_34 : decode b_Office_isSign 34 = .ok (.iconst 0, 1) := by decide +kernel
theorem d_Office_isSign_35 : decode b_Office_isSign 35 = .ok (.ireturn, 1) := by decide +kernel
theorem s_Office_isSign : Cond.static y_Office_isSign ∈ nm_Ts ∧ Cond.initialized y_Office_isSign.cls ∈ nm_Ts ∧ Cond.code y_Office_isSign b_Office_isSign 1 (some .boolean) ∈ nm_Ts ∧ mz_cl1 y_Office_isSign 1 := ⟨nm_t2 6 rfl rfl, nm_t1 1 rfl rfl, nm_t2 7 rfl rfl, by decide +kernel⟩
def y_Card_init : MethodName := ⟨"CardOffice$Card", "<init>", "()V"⟩
abbrev b_Card_init : ByteArray := prog_3_method_1_code
def r_Card_init (c s : Nat) : Room := { frames := 1, cells := c, slots := s, locals := 14 }
theorem d_Card_init_0 : decode b_Card_init 0 = .ok (.aload_n 0, 1) := by decide +kernel
theorem d_Card_init_1 : decode b_Card_init 1 = .ok (.invokespecial 3, 3) := by decide +kernel
theorem d_Card_init_4 : decode b_Card_init 4 = .ok (.aload_n 0, 1) := by decide +kernel
theorem d_Card_init_5 : decode b_Card_init 5 = .ok (.bipush 16, 2) := by decide +kernel
theorem d_Card_init_7 : decode b_Card_init 7 = .ok (.newarray .int, 2) := by decide +kernel
theorem d_Card_init_9 : decode b_Card_init 9 = .ok (.putfield 9, 3) := by decide +kernel
theorem d_Card_init_12 : decode b_Card_init 12 = .ok (.return_, 1) := by decide +kernel
theorem d_Card_init : decode b_Card_init 0 = .ok (.aload_n 0, 1) ∧ decode b_Card_init 1 = .ok (.invokespecial 3, 3) ∧ decode b_Card_init 4 = .ok (.aload_n 0, 1) ∧ decode b_Card_init 5 = .ok (.bipush 16, 2) ∧ decode b_Card_init 7 = .ok (.newarray .int, 2) ∧ decode b_Card_init 9 = .ok (.putfield 9, 3) ∧ decode b_Card_init 12 = .ok (.return_, 1) := ⟨d_Card_init_0, d_Card_init_1, d_Card_init_4, d_Card_init_5, d_Card_init_7, d_Card_init_9, d_Card_init_12⟩
theorem i_Card_init : Cond.instanceMethod y_Card_init ∈ nm_Ts ∧ y_Card_init.name = "<init>" ∧ Cond.initialized y_Card_init.cls ∈ nm_Ts ∧ Cond.code y_Card_init b_Card_init 1 none ∈ nm_Ts ∧ mz_cl1 y_Card_init 0 := ⟨nm_t2 11 rfl rfl, rfl, nm_t1 13 rfl rfl, nm_t2 12 rfl rfl, by decide +kernel⟩
def y_Deck_add : MethodName := ⟨"CardOffice$Deck", "add", "(LCardOffice$Card;)V"⟩
abbrev b_Deck_add : ByteArray := prog_5_method_3_code
def r_Deck_add (c s : Nat) : Room := { frames := 0, cells := c, slots := s, locals := 0 }
theorem d_Deck_add_0 : decode b_Deck_add 0 = .ok (.aload_n 0, 1) := by decide +kernel
theorem d_Deck_add_1 : decode b_Deck_add 1 = .ok (.getfield 11, 3) := by decide +kernel
theorem d_Deck_add_4 : decode b_Deck_add 4 = .ok (.aload_n 0, 1) := by decide +kernel
theorem d_Deck_add_5 : decode b_Deck_add 5 = .ok (.getfield 17, 3) := by decide +kernel
theorem d_Deck_add_8 : decode b_Deck_add 8 = .ok (.aload_n 1, 1) := by decide +kernel
theorem d_Deck_add_9 : decode b_Deck_add 9 = .ok (.aastore, 1) := by decide +kernel
theorem d_Deck_add_10 : decode b_Deck_add 10 = .ok (.aload_n 0, 1) := by decide +kernel
theorem d_Deck_add_11 : decode b_Deck_add 11 = .ok (.dup, 1) := by decide +kernel
theorem d_Deck_add_12 : decode b_Deck_add 12 = .ok (.getfield 17, 3) := by decide +kernel
theorem d_Deck_add_15 : decode b_Deck_add 15 = .ok (.iconst 1, 1) := by decide +kernel
theorem d_Deck_add_16 : decode b_Deck_add 16 = .ok (.iadd, 1) := by decide +kernel
theorem d_Deck_add_17 : decode b_Deck_add 17 = .ok (.putfield 17, 3) := by decide +kernel
theorem d_Deck_add_20 : decode b_Deck_add 20 = .ok (.return_, 1) := by decide +kernel
theorem v_Deck_add : Cond.instanceMethod y_Deck_add ∈ nm_Ts ∧ Cond.selects y_Deck_add.cls y_Deck_add y_Deck_add ∈ nm_Ts ∧ Cond.initialized y_Deck_add.cls ∈ nm_Ts ∧ Cond.code y_Deck_add b_Deck_add 2 none ∈ nm_Ts ∧ mz_cl1 y_Deck_add 1 := ⟨nm_t2 25 rfl rfl, nm_t2 26 rfl rfl, nm_t1 5 rfl rfl, nm_t2 27 rfl rfl, by decide +kernel⟩
def y_Office_wire : MethodName := ⟨"CardOffice", "wire", "(III)Z"⟩
abbrev b_Office_wire : ByteArray := prog_1_method_3_code
def r_Office_wire (c s : Nat) : Room := { frames := 2, cells := c, slots := s, locals := 45 }
theorem d_Office_wire_0 : decode b_Office_wire 0 = .ok (.iload_n 1, 1) := by decide +kernel
theorem d_Office_wire_1 : decode b_Office_wire 1 = .ok (.invokestatic 84, 3) := by decide +kernel
theorem d_Office_wire_4 : decode b_Office_wire 4 = .ok (.ifCond .eq 17, 3) := by decide +kernel
theorem d_Office_wire_7 : decode b_Office_wire 7 = .ok (.iload_n 2, 1) := by decide +kernel
theorem d_Office_wire_8 : decode b_Office_wire 8 = .ok (.invokestatic 87, 3) := by decide +kernel
theorem d_Office_wire_11 : decode b_Office_wire 11 = .ok (.ifCond .eq 10, 3) := by decide +kernel
theorem d_Office_wire_14 : decode b_Office_wire 14 = .ok (.iload_n 3, 1) := by decide +kernel
theorem d_Office_wire_15 : decode b_Office_wire 15 = .ok (.invokestatic 90, 3) := by decide +kernel
theorem d_Office_wire_18 : decode b_Office_wire 18 = .ok (.ifCond .ne 5, 3) := by decide +kernel
theorem d_Office_wire_21 : decode b_Office_wire 21 = .ok (.iconst 0, 1) := by decide +kernel
theorem d_Office_wire_22 : decode b_Office_wire 22 = .ok (.ireturn, 1) := by decide +kernel
theorem d_Office_wire_23 : decode b_Office_wire 23 = .ok (.aload_n 0, 1) := by decide +kernel
theorem d_Office_wire_24 : decode b_Office_wire 24 = .ok (.getfield 17, 3) := by decide +kernel
theorem d_Office_wire_27 : decode b_Office_wire 27 = .ok (.iload_n 1, 1) := by decide +kernel
theorem d_Office_wire_28 : decode b_Office_wire 28 = .ok (.aaload, 1) := by decide +kernel
theorem d_Office_wire_29 : decode b_Office_wire 29 = .ok (.iload_n 2, 1) := by decide +kernel
theorem d_Office_wire_30 : decode b_Office_wire 30 = .ok (.iload_n 3, 1) := by decide +kernel
theorem d_Office_wire_31 : decode b_Office_wire 31 = .ok (.invokevirtual 93, 3) := by decide +kernel
theorem d_Office_wire_34 : decode b_Office_wire 34 = .ok (.ireturn, 1) := by decide +kernel
theorem v_Office_wire : Cond.instanceMethod y_Office_wire ∈ nm_Ts ∧ Cond.selects y_Office_wire.cls y_Office_wire y_Office_wire ∈ nm_Ts ∧ Cond.initialized y_Office_wire.cls ∈ nm_Ts ∧ Cond.code y_Office_wire b_Office_wire 4 (some .boolean) ∈ nm_Ts ∧ mz_cl1 y_Office_wire 3 := ⟨nm_t2 29 rfl rfl, nm_t2 30 rfl rfl, nm_t1 1 rfl rfl, nm_t2 31 rfl rfl, by decide +kernel⟩
def y_Office_isBoard : MethodName := ⟨"CardOffice", "isBoard", "(I)Z"⟩
abbrev b_Office_isBoard : ByteArray := prog_1_method_23_code
def r_Office_isBoard (c s : Nat) : Room := { frames := 0, cells := c, slots := s, locals := 0 }
theorem d_Office_isBoard_0 : decode b_Office_isBoard 0 = .ok (.iload_n 0, 1) := by decide +kernel
theorem d_Office_isBoard_1 : decode b_Office_isBoard 1 = .ok (.ifCond .lt 12, 3) := by decide +kernel
theorem d_Office_isBoard_4 : decode b_Office_isBoard 4 = .ok (.iload_n 0, 1) := by decide +kernel
theorem d_Office_isBoard_5 : decode b_Office_isBoard 5 = .ok (.iconst 4, 1) := by decide +kernel
theorem d_Office_isBoard_6 : decode b_Office_isBoard 6 = .ok (.if_icmp .ge 7, 3) := by decide +kernel
theorem d_Office_isBoard_9 : decode b_Office_isBoard 9 = .ok (.iconst 1, 1) := by decide +kernel
theorem d_Office_isBoard_10 : decode b_Office_isBoard 10 = .ok (.goto 4, 3) := by decide +kernel
theorem d_Office_isBoard_13 : decode b_Office_isBoard 13 = .ok (.iconst 0, 1) := by decide +kernel
theorem d_Office_isBoard_14 : decode b_Office_isBoard 14 = .ok (.ireturn, 1) := by decide +kernel
theorem s_Office_isBoard : Cond.static y_Office_isBoard ∈ nm_Ts ∧ Cond.initialized y_Office_isBoard.cls ∈ nm_Ts ∧ Cond.code y_Office_isBoard b_Office_isBoard 1 (some .boolean) ∈ nm_Ts ∧ mz_cl1 y_Office_isBoard 1 := ⟨nm_t2 33 rfl rfl, nm_t1 1 rfl rfl, nm_t2 34 rfl rfl, by decide +kernel⟩
def y_Office_isFromJack : MethodName := ⟨"CardOffice", "isFromJack", "(I)Z"⟩
abbrev b_Office_isFromJack : ByteArray := prog_1_method_27_code
def r_Office_isFromJack (c s : Nat) : Room := { frames := 0, cells := c, slots := s, locals := 0 }
theorem d_Office_isFromJack_0 : decode b_Office_isFromJack 0 = .ok (.iload_n 0, 1) := by decide +kernel
theorem d_Office_isFromJack_1 : decode b_Office_isFromJack 1 = .ok (.ifCond .lt 9, 3) := by decide +kernel
theorem d_Office_isFromJack_4 : decode b_Office_isFromJack 4 = .ok (.iload_n 0, 1) := by decide +kernel
theorem d_Office_isFromJack_5 : decode b_Office_isFromJack 5 = .ok (.bipush 26, 2) := by decide +kernel
theorem d_Office_isFromJack_7 : decode b_Office_isFromJack 7 = .ok (.if_icmp .lt 15, 3) := by decide +kernel
theorem d_Office_isFromJack_10 : decode b_Office_isFromJack 10 = .ok (.iload_n 0, 1) := by decide +kernel
theorem d_Office_isFromJack_11 : decode b_Office_isFromJack 11 = .ok (.bipush 32, 2) := by decide +kernel
theorem d_Office_isFromJack_13 : decode b_Office_isFromJack 13 = .ok (.if_icmp .lt 13, 3) := by decide +kernel
theorem d_Office_isFromJack_16 : decode b_Office_isFromJack 16 = .ok (.iload_n 0, 1) := by decide +kernel
theorem d_Office_isFromJack_17 : decode b_Office_isFromJack 17 = .ok (.bipush 56, 2) := by decide +kernel
theorem d_Office_isFromJack_19 : decode b_Office_isFromJack 19 = .ok (.if_icmp .ge 7, 3) := by decide +kernel
theorem d_Office_isFromJack_22 : decode b_Office_isFromJack 22 = .ok (.iconst 1, 1) := by decide +kernel
theorem d_Office_isFromJack_23 : decode b_Office_isFromJack 23 = .ok (.goto 4, 3) := by decide +kernel
theorem d_Office_isFromJack_26 : decode b_Office_isFromJack 26 = .ok (.iconst 0, 1) := by decide +kernel
theorem d_Office_isFromJack_27 : decode b_Office_isFromJack 27 = .ok (.ireturn, 1) := by decide +kernel
theorem s_Office_isFromJack : Cond.static y_Office_isFromJack ∈ nm_Ts ∧ Cond.initialized y_Office_isFromJack.cls ∈ nm_Ts ∧ Cond.code y_Office_isFromJack b_Office_isFromJack 1 (some .boolean) ∈ nm_Ts ∧ mz_cl1 y_Office_isFromJack 1 := ⟨nm_t2 36 rfl rfl, nm_t1 1 rfl rfl, nm_t2 37 rfl rfl, by decide +kernel⟩
def y_Office_isToJack : MethodName := ⟨"CardOffice", "isToJack", "(I)Z"⟩
abbrev b_Office_isToJack : ByteArray := prog_1_method_28_code
def r_Office_isToJack (c s : Nat) : Room := { frames := 1, cells := c, slots := s, locals := 20 }
theorem d_Office_isToJack_0 : decode b_Office_isToJack 0 = .ok (.iload_n 0, 1) := by decide +kernel
theorem d_Office_isToJack_1 : decode b_Office_isToJack 1 = .ok (.invokestatic 106, 3) := by decide +kernel
theorem d_Office_isToJack_4 : decode b_Office_isToJack 4 = .ok (.ifCond .ne 39, 3) := by decide +kernel
theorem d_Office_isToJack_7 : decode b_Office_isToJack 7 = .ok (.iload_n 0, 1) := by decide +kernel
theorem d_Office_isToJack_8 : decode b_Office_isToJack 8 = .ok (.bipush 32, 2) := by decide +kernel
theorem d_Office_isToJack_10 : decode b_Office_isToJack 10 = .ok (.if_icmp .lt 9, 3) := by decide +kernel
theorem d_Office_isToJack_13 : decode b_Office_isToJack 13 = .ok (.iload_n 0, 1) := by decide +kernel
theorem d_Office_isToJack_14 : decode b_Office_isToJack 14 = .ok (.bipush 56, 2) := by decide +kernel
theorem d_Office_isToJack_16 : decode b_Office_isToJack 16 = .ok (.if_icmp .lt 27, 3) := by decide +kernel
theorem d_Office_isToJack_19 : decode b_Office_isToJack 19 = .ok (.iload_n 0, 1) := by decide +kernel
theorem d_Office_isToJack_20 : decode b_Office_isToJack 20 = .ok (.bipush 64, 2) := by decide +kernel
theorem d_Office_isToJack_22 : decode b_Office_isToJack 22 = .ok (.if_icmp .lt 9, 3) := by decide +kernel
theorem d_Office_isToJack_25 : decode b_Office_isToJack 25 = .ok (.iload_n 0, 1) := by decide +kernel
theorem d_Office_isToJack_26 : decode b_Office_isToJack 26 = .ok (.bipush 88, 2) := by decide +kernel
theorem d_Office_isToJack_28 : decode b_Office_isToJack 28 = .ok (.if_icmp .lt 15, 3) := by decide +kernel
theorem d_Office_isToJack_31 : decode b_Office_isToJack 31 = .ok (.iload_n 0, 1) := by decide +kernel
theorem d_Office_isToJack_32 : decode b_Office_isToJack 32 = .ok (.bipush 96, 2) := by decide +kernel
theorem d_Office_isToJack_34 : decode b_Office_isToJack 34 = .ok (.if_icmp .lt 13, 3) := by decide +kernel
theorem d_Office_isToJack_37 : decode b_Office_isToJack 37 = .ok (.iload_n 0, 1) := by decide +kernel
theorem d_Office_isToJack_38 : decode b_Office_isToJack 38 = .ok (.bipush 99, 2) := by decide +kernel
theorem d_Office_isToJack_40 : decode b_Office_isToJack 40 = .ok (.if_icmp .gt 7, 3) := by decide +kernel
theorem d_Office_isToJack_43 : decode b_Office_isToJack 43 = .ok (.iconst 1, 1) := by decide +kernel
theorem d_Office_isToJack_44 : decode b_Office_isToJack 44 = .ok (.goto 4, 3) := by decide +kernel
theorem d_Office_isToJack_47 : decode b_Office_isToJack 47 = .ok (.iconst 0, 1) := by decide +kernel
theorem d_Office_isToJack_48 : decode b_Office_isToJack 48 = .ok (.ireturn, 1) := by decide +kernel
theorem s_Office_isToJack : Cond.static y_Office_isToJack ∈ nm_Ts ∧ Cond.initialized y_Office_isToJack.cls ∈ nm_Ts ∧ Cond.code y_Office_isToJack b_Office_isToJack 1 (some .boolean) ∈ nm_Ts ∧ mz_cl1 y_Office_isToJack 1 := ⟨nm_t2 39 rfl rfl, nm_t1 1 rfl rfl, nm_t2 40 rfl rfl, by decide +kernel⟩
def y_Office_isColumn : MethodName := ⟨"CardOffice", "isColumn", "(I)Z"⟩
abbrev b_Office_isColumn : ByteArray := prog_1_method_25_code
def r_Office_isColumn (c s : Nat) : Room := { frames := 0, cells := c, slots := s, locals := 0 }
theorem d_Office_isColumn_0 : decode b_Office_isColumn 0 = .ok (.iload_n 0, 1) := by decide +kernel
theorem d_Office_isColumn_1 : decode b_Office_isColumn 1 = .ok (.ifCond .lt 13, 3) := by decide +kernel
theorem d_Office_isColumn_4 : decode b_Office_isColumn 4 = .ok (.iload_n 0, 1) := by decide +kernel
theorem d_Office_isColumn_5 : decode b_Office_isColumn 5 = .ok (.bipush 16, 2) := by decide +kernel
theorem d_Office_isColumn_7 : decode b_Office_isColumn 7 = .ok (.if_icmp .ge 7, 3) := by decide +kernel
theorem d_Office_isColumn_10 : decode b_Office_isColumn 10 = .ok (.iconst 1, 1) := by decide +kernel
theorem d_Office_isColumn_11 : decode b_Office_isColumn 11 = .ok (.goto 4, 3) := by decide +kernel
theorem d_Office_isColumn_14 : decode b_Office_isColumn 14 = .ok (.iconst 0, 1) := by decide +kernel
theorem d_Office_isColumn_15 : decode b_Office_isColumn 15 = .ok (.ireturn, 1) := by decide +kernel
theorem s_Office_isColumn : Cond.static y_Office_isColumn ∈ nm_Ts ∧ Cond.initialized y_Office_isColumn.cls ∈ nm_Ts ∧ Cond.code y_Office_isColumn b_Office_isColumn 1 (some .boolean) ∈ nm_Ts ∧ mz_cl1 y_Office_isColumn 1 := ⟨nm_t2 42 rfl rfl, nm_t1 1 rfl rfl, nm_t2 43 rfl rfl, by decide +kernel⟩
def y_Board_addWire : MethodName := ⟨"CardOffice$Board", "addWire", "(II)Z"⟩
abbrev b_Board_addWire : ByteArray := prog_2_method_2_code
def r_Board_addWire (c s : Nat) : Room := { frames := 1, cells := c, slots := s, locals := 23 }
theorem d_Board_addWire_0 : decode b_Board_addWire 0 = .ok (.aload_n 0, 1) := by decide +kernel
theorem d_Board_addWire_1 : decode b_Board_addWire 1 = .ok (.getfield 27, 3) := by decide +kernel
theorem d_Board_addWire_4 : decode b_Board_addWire 4 = .ok (.bipush 40, 2) := by decide +kernel
theorem d_Board_addWire_6 : decode b_Board_addWire 6 = .ok (.if_icmp .ge 12, 3) := by decide +kernel
theorem d_Board_addWire_9 : decode b_Board_addWire 9 = .ok (.aload_n 0, 1) := by decide +kernel
theorem d_Board_addWire_10 : decode b_Board_addWire 10 = .ok (.iload_n 1, 1) := by decide +kernel
theorem d_Board_addWire_11 : decode b_Board_addWire 11 = .ok (.iload_n 2, 1) := by decide +kernel
theorem d_Board_addWire_12 : decode b_Board_addWire 12 = .ok (.invokevirtual 31, 3) := by decide +kernel
theorem d_Board_addWire_15 : decode b_Board_addWire 15 = .ok (.ifCond .eq 5, 3) := by decide +kernel
theorem d_Board_addWire_18 : decode b_Board_addWire 18 = .ok (.iconst 0, 1) := by decide +kernel
theorem d_Board_addWire_19 : decode b_Board_addWire 19 = .ok (.ireturn, 1) := by decide +kernel
theorem d_Board_addWire_20 : decode b_Board_addWire 20 = .ok (.aload_n 0, 1) := by decide +kernel
theorem d_Board_addWire_21 : decode b_Board_addWire 21 = .ok (.getfield 9, 3) := by decide +kernel
theorem d_Board_addWire_24 : decode b_Board_addWire 24 = .ok (.aload_n 0, 1) := by decide +kernel
theorem d_Board_addWire_25 : decode b_Board_addWire 25 = .ok (.getfield 27, 3) := by decide +kernel
theorem d_Board_addWire_28 : decode b_Board_addWire 28 = .ok (.iload_n 1, 1) := by decide +kernel
theorem d_Board_addWire_29 : decode b_Board_addWire 29 = .ok (.iastore, 1) := by decide +kernel
theorem d_Board_addWire_30 : decode b_Board_addWire 30 = .ok (.aload_n 0, 1) := by decide +kernel
theorem d_Board_addWire_31 : decode b_Board_addWire 31 = .ok (.getfield 15, 3) := by decide +kernel
theorem d_Board_addWire_34 : decode b_Board_addWire 34 = .ok (.aload_n 0, 1) := by decide +kernel
theorem d_Board_addWire_35 : decode b_Board_addWire 35 = .ok (.getfield 27, 3) := by decide +kernel
theorem d_Board_addWire_38 : decode b_Board_addWire 38 = .ok (.iload_n 2, 1) := by decide +kernel
theorem d_Board_addWire_39 : decode b_Board_addWire 39 = .ok (.iastore, 1) := by decide +kernel
theorem d_Board_addWire_40 : decode b_Board_addWire 40 = .ok (.aload_n 0, 1) := by decide +kernel
theorem d_Board_addWire_41 : decode b_Board_addWire 41 = .ok (.dup, 1) := by decide +kernel
theorem d_Board_addWire_42 : decode b_Board_addWire 42 = .ok (.getfield 27, 3) := by decide +kernel
theorem d_Board_addWire_45 : decode b_Board_addWire 45 = .ok (.iconst 1, 1) := by decide +kernel
theorem d_Board_addWire_46 : decode b_Board_addWire 46 = .ok (.iadd, 1) := by decide +kernel
theorem d_Board_addWire_47 : decode b_Board_addWire 47 = .ok (.putfield 27, 3) := by decide +kernel
theorem d_Board_addWire_50 : decode b_Board_addWire 50 = .ok (.iconst 1, 1) := by decide +kernel
theorem d_Board_addWire_51 : decode b_Board_addWire 51 = .ok (.ireturn, 1) := by decide +kernel
theorem v_Board_addWire : Cond.instanceMethod y_Board_addWire ∈ nm_Ts ∧ Cond.selects y_Board_addWire.cls y_Board_addWire y_Board_addWire ∈ nm_Ts ∧ Cond.initialized y_Board_addWire.cls ∈ nm_Ts ∧ Cond.code y_Board_addWire b_Board_addWire 3 (some .boolean) ∈ nm_Ts ∧ mz_cl1 y_Board_addWire 2 := ⟨nm_t2 45 rfl rfl, nm_t2 46 rfl rfl, nm_t1 10 rfl rfl, nm_t2 47 rfl rfl, by decide +kernel⟩
def y_Board_hasWire : MethodName := ⟨"CardOffice$Board", "hasWire", "(II)Z"⟩
abbrev b_Board_hasWire : ByteArray := prog_2_method_4_code
def r_Board_hasWire (c s : Nat) : Room := { frames := 0, cells := c, slots := s, locals := 0 }
theorem d_Board_hasWire_0 : decode b_Board_hasWire 0 = .ok (.iconst 0, 1) := by decide +kernel
theorem d_Board_hasWire_1 : decode b_Board_hasWire 1 = .ok (.istore_n 3, 1) := by decide +kernel
theorem d_Board_hasWire_2 : decode b_Board_hasWire 2 = .ok (.iload_n 3, 1) := by decide +kernel
theorem d_Board_hasWire_3 : decode b_Board_hasWire 3 = .ok (.aload_n 0, 1) := by decide +kernel
theorem d_Board_hasWire_4 : decode b_Board_hasWire 4 = .ok (.getfield 27, 3) := by decide +kernel
theorem d_Board_hasWire_7 : decode b_Board_hasWire 7 = .ok (.if_icmp .ge 31, 3) := by decide +kernel
theorem d_Board_hasWire_10 : decode b_Board_hasWire 10 = .ok (.aload_n 0, 1) := by decide +kernel
theorem d_Board_hasWire_11 : decode b_Board_hasWire 11 = .ok (.getfield 9, 3) := by decide +kernel
theorem d_Board_hasWire_14 : decode b_Board_hasWire 14 = .ok (.iload_n 3, 1) := by decide +kernel
theorem d_Board_hasWire_15 : decode b_Board_hasWire 15 = .ok (.iaload, 1) := by decide +kernel
theorem d_Board_hasWire_16 : decode b_Board_hasWire 16 = .ok (.iload_n 1, 1) := by decide +kernel
theorem d_Board_hasWire_17 : decode b_Board_hasWire 17 = .ok (.if_icmp .ne 15, 3) := by decide +kernel
theorem d_Board_hasWire_20 : decode b_Board_hasWire 20 = .ok (.aload_n 0, 1) := by decide +kernel
theorem d_Board_hasWire_21 : decode b_Board_hasWire 21 = .ok (.getfield 15, 3) := by decide +kernel
theorem d_Board_hasWire_24 : decode b_Board_hasWire 24 = .ok (.iload_n 3, 1) := by decide +kernel
theorem d_Board_hasWire_25 : decode b_Board_hasWire 25 = .ok (.iaload, 1) := by decide +kernel
theorem d_Board_hasWire_26 : decode b_Board_hasWire 26 = .ok (.iload_n 2, 1) := by decide +kernel
theorem d_Board_hasWire_27 : decode b_Board_hasWire 27 = .ok (.if_icmp .ne 5, 3) := by decide +kernel
theorem d_Board_hasWire_30 : decode b_Board_hasWire 30 = .ok (.iconst 1, 1) := by decide +kernel
theorem d_Board_hasWire_31 : decode b_Board_hasWire 31 = .ok (.ireturn, 1) := by decide +kernel
theorem d_Board_hasWire_32 : decode b_Board_hasWire 32 = .ok (.iinc 3 1, 3) := by decide +kernel
theorem d_Board_hasWire_35 : decode b_Board_hasWire 35 = .ok (.goto (-33), 3) := by decide +kernel
theorem d_Board_hasWire_38 : decode b_Board_hasWire 38 = .ok (.iconst 0, 1) := by decide +kernel
theorem d_Board_hasWire_39 : decode b_Board_hasWire 39 = .ok (.ireturn, 1) := by decide +kernel
theorem v_Board_hasWire : Cond.instanceMethod y_Board_hasWire ∈ nm_Ts ∧ Cond.selects y_Board_hasWire.cls y_Board_hasWire y_Board_hasWire ∈ nm_Ts ∧ Cond.initialized y_Board_hasWire.cls ∈ nm_Ts ∧ Cond.code y_Board_hasWire b_Board_hasWire 4 (some .boolean) ∈ nm_Ts ∧ mz_cl1 y_Board_hasWire 2 := ⟨nm_t2 50 rfl rfl, nm_s 2 rfl rfl, nm_t1 10 rfl rfl, nm_t2 51 rfl rfl, by decide +kernel⟩
def y_Office_strip : MethodName := ⟨"CardOffice", "strip", "(I)I"⟩
abbrev b_Office_strip : ByteArray := prog_1_method_4_code
def r_Office_strip (c s : Nat) : Room := { frames := 2, cells := c, slots := s, locals := 44 }
theorem d_Office_strip_0 : decode b_Office_strip 0 = .ok (.iload_n 1, 1) := by decide +kernel
theorem d_Office_strip_1 : decode b_Office_strip 1 = .ok (.invokestatic 84, 3) := by decide +kernel
theorem d_Office_strip_4 : decode b_Office_strip 4 = .ok (.ifCond .ne 5, 3) := by decide +kernel
theorem d_Office_strip_7 : decode b_Office_strip 7 = .ok (.iconst (-1), 1) := by decide +kernel
theorem d_Office_strip_8 : decode b_Office_strip 8 = .ok (.ireturn, 1) := by decide +kernel
theorem d_Office_strip_9 : decode b_Office_strip 9 = .ok (.aload_n 0, 1) := by decide +kernel
theorem d_Office_strip_10 : decode b_Office_strip 10 = .ok (.getfield 17, 3) := by decide +kernel
theorem d_Office_strip_13 : decode b_Office_strip 13 = .ok (.iload_n 1, 1) := by decide +kernel
theorem d_Office_strip_14 : decode b_Office_strip 14 = .ok (.aaload, 1) := by decide +kernel
theorem d_Office_strip_15 : decode b_Office_strip 15 = .ok (.invokevirtual 97, 3) := by decide +kernel
theorem d_Office_strip_18 : decode b_Office_strip 18 = .ok (.ireturn, 1) := by decide +kernel
theorem v_Office_strip : Cond.instanceMethod y_Office_strip ∈ nm_Ts ∧ Cond.selects y_Office_strip.cls y_Office_strip y_Office_strip ∈ nm_Ts ∧ Cond.initialized y_Office_strip.cls ∈ nm_Ts ∧ Cond.code y_Office_strip b_Office_strip 2 (some .int) ∈ nm_Ts ∧ mz_cl1 y_Office_strip 1 := ⟨nm_t2 53 rfl rfl, nm_t2 54 rfl rfl, nm_t1 1 rfl rfl, nm_t2 55 rfl rfl, by decide +kernel⟩
def y_Board_makeBare : MethodName := ⟨"CardOffice$Board", "makeBare", "()I"⟩
abbrev b_Board_makeBare : ByteArray := prog_2_method_3_code
def r_Board_makeBare (c s : Nat) : Room := { frames := 1, cells := c, slots := s, locals := 23 }
theorem d_Board_makeBare_0 : decode b_Board_makeBare 0 = .ok (.aload_n 0, 1) := by decide +kernel
theorem d_Board_makeBare_1 : decode b_Board_makeBare 1 = .ok (.getfield 27, 3) := by decide +kernel
theorem d_Board_makeBare_4 : decode b_Board_makeBare 4 = .ok (.istore_n 1, 1) := by decide +kernel
theorem d_Board_makeBare_5 : decode b_Board_makeBare 5 = .ok (.aload_n 0, 1) := by decide +kernel
theorem d_Board_makeBare_6 : decode b_Board_makeBare 6 = .ok (.iconst 0, 1) := by decide +kernel
theorem d_Board_makeBare_7 : decode b_Board_makeBare 7 = .ok (.putfield 27, 3) := by decide +kernel
theorem d_Board_makeBare_10 : decode b_Board_makeBare 10 = .ok (.aload_n 0, 1) := by decide +kernel
theorem d_Board_makeBare_11 : decode b_Board_makeBare 11 = .ok (.getfield 18, 3) := by decide +kernel
theorem d_Board_makeBare_14 : decode b_Board_makeBare 14 = .ok (.iconst 3, 1) := by decide +kernel
theorem d_Board_makeBare_15 : decode b_Board_makeBare 15 = .ok (.invokestatic 21, 3) := by decide +kernel
theorem d_Board_makeBare_18 : decode b_Board_makeBare 18 = .ok (.iload_n 1, 1) := by decide +kernel
theorem d_Board_makeBare_19 : decode b_Board_makeBare 19 = .ok (.ireturn, 1) := by decide +kernel
theorem v_Board_makeBare : Cond.instanceMethod y_Board_makeBare ∈ nm_Ts ∧ Cond.selects y_Board_makeBare.cls y_Board_makeBare y_Board_makeBare ∈ nm_Ts ∧ Cond.initialized y_Board_makeBare.cls ∈ nm_Ts ∧ Cond.code y_Board_makeBare b_Board_makeBare 2 (some .int) ∈ nm_Ts ∧ mz_cl1 y_Board_makeBare 0 := ⟨nm_t2 57 rfl rfl, nm_t2 58 rfl rfl, nm_t1 10 rfl rfl, nm_t2 59 rfl rfl, by decide +kernel⟩
def y_Office_level : MethodName := ⟨"CardOffice", "level", "(III)Z"⟩
abbrev b_Office_level : ByteArray := prog_1_method_5_code
def r_Office_level (c s : Nat) : Room := { frames := 1, cells := c, slots := s, locals := 20 }
theorem d_Office_level_0 : decode b_Office_level 0 = .ok (.iload_n 1, 1) := by decide +kernel
theorem d_Office_level_1 : decode b_Office_level 1 = .ok (.invokestatic 84, 3) := by decide +kernel
theorem d_Office_level_4 : decode b_Office_level 4 = .ok (.ifCond .eq 19, 3) := by decide +kernel
theorem d_Office_level_7 : decode b_Office_level 7 = .ok (.iload_n 2, 1) := by decide +kernel
theorem d_Office_level_8 : decode b_Office_level 8 = .ok (.invokestatic 100, 3) := by decide +kernel
theorem d_Office_level_11 : decode b_Office_level 11 = .ok (.ifCond .eq 12, 3) := by decide +kernel
theorem d_Office_level_14 : decode b_Office_level 14 = .ok (.iload_n 3, 1) := by decide +kernel
theorem d_Office_level_15 : decode b_Office_level 15 = .ok (.ifCond .lt 8, 3) := by decide +kernel
theorem d_Office_level_18 : decode b_Office_level 18 = .ok (.iload_n 3, 1) := by decide +kernel
theorem d_Office_level_19 : decode b_Office_level 19 = .ok (.iconst 4, 1) := by decide +kernel
theorem d_Office_level_20 : decode b_Office_level 20 = .ok (.if_icmp .lt 5, 3) := by decide +kernel
theorem d_Office_level_23 : decode b_Office_level 23 = .ok (.iconst 0, 1) := by decide +kernel
theorem d_Office_level_24 : decode b_Office_level 24 = .ok (.ireturn, 1) := by decide +kernel
theorem d_Office_level_25 : decode b_Office_level 25 = .ok (.aload_n 0, 1) := by decide +kernel
theorem d_Office_level_26 : decode b_Office_level 26 = .ok (.getfield 17, 3) := by decide +kernel
theorem d_Office_level_29 : decode b_Office_level 29 = .ok (.iload_n 1, 1) := by decide +kernel
theorem d_Office_level_30 : decode b_Office_level 30 = .ok (.aaload, 1) := by decide +kernel
theorem d_Office_level_31 : decode b_Office_level 31 = .ok (.getfield 103, 3) := by decide +kernel
theorem d_Office_level_34 : decode b_Office_level 34 = .ok (.iload_n 2, 1) := by decide +kernel
theorem d_Office_level_35 : decode b_Office_level 35 = .ok (.iload_n 3, 1) := by decide +kernel
theorem d_Office_level_36 : decode b_Office_level 36 = .ok (.iastore, 1) := by decide +kernel
theorem d_Office_level_37 : decode b_Office_level 37 = .ok (.iconst 1, 1) := by decide +kernel
theorem d_Office_level_38 : decode b_Office_level 38 = .ok (.ireturn, 1) := by decide +kernel
theorem v_Office_level : Cond.instanceMethod y_Office_level ∈ nm_Ts ∧ Cond.selects y_Office_level.cls y_Office_level y_Office_level ∈ nm_Ts ∧ Cond.initialized y_Office_level.cls ∈ nm_Ts ∧ Cond.code y_Office_level b_Office_level 4 (some .boolean) ∈ nm_Ts ∧ mz_cl1 y_Office_level 3 := ⟨nm_t2 61 rfl rfl, nm_t2 62 rfl rfl, nm_t1 1 rfl rfl, nm_t2 63 rfl rfl, by decide +kernel⟩
def y_Office_isCounter : MethodName := ⟨"CardOffice", "isCounter", "(I)Z"⟩
abbrev b_Office_isCounter : ByteArray := prog_1_method_24_code
def r_Office_isCounter (c s : Nat) : Room := { frames := 0, cells := c, slots := s, locals := 0 }
theorem d_Office_isCounter_0 : decode b_Office_isCounter 0 = .ok (.iload_n 0, 1) := by decide +kernel
theorem d_Office_isCounter_1 : decode b_Office_isCounter 1 = .ok (.ifCond .lt 12, 3) := by decide +kernel
theorem d_Office_isCounter_4 : decode b_Office_isCounter 4 = .ok (.iload_n 0, 1) := by decide +kernel
theorem d_Office_isCounter_5 : decode b_Office_isCounter 5 = .ok (.iconst 4, 1) := by decide +kernel
theorem d_Office_isCounter_6 : decode b_Office_isCounter 6 = .ok (.if_icmp .ge 7, 3) := by decide +kernel
theorem d_Office_isCounter_9 : decode b_Office_isCounter 9 = .ok (.iconst 1, 1) := by decide +kernel
theorem d_Office_isCounter_10 : decode b_Office_isCounter 10 = .ok (.goto 4, 3) := by decide +kernel
theorem d_Office_isCounter_13 : decode b_Office_isCounter 13 = .ok (.iconst 0, 1) := by decide +kernel
theorem d_Office_isCounter_14 : decode b_Office_isCounter 14 = .ok (.ireturn, 1) := by decide +kernel
theorem s_Office_isCounter : Cond.static y_Office_isCounter ∈ nm_Ts ∧ Cond.initialized y_Office_isCounter.cls ∈ nm_Ts ∧ Cond.code y_Office_isCounter b_Office_isCounter 1 (some .boolean) ∈ nm_Ts ∧ mz_cl1 y_Office_isCounter 1 := ⟨nm_t2 65 rfl rfl, nm_t1 1 rfl rfl, nm_t2 66 rfl rfl, by decide +kernel⟩
def y_Office_cut : MethodName := ⟨"CardOffice", "cut", "(III)Z"⟩
abbrev b_Office_cut : ByteArray := prog_1_method_14_code
def r_Office_cut (c s : Nat) : Room := { frames := 2, cells := c, slots := s, locals := 45 }
theorem d_Office_cut_0 : decode b_Office_cut 0 = .ok (.iload_n 1, 1) := by decide +kernel
theorem d_Office_cut_1 : decode b_Office_cut 1 = .ok (.iload_n 3, 1) := by decide +kernel
theorem d_Office_cut_2 : decode b_Office_cut 2 = .ok (.invokestatic 129, 3) := by decide +kernel
theorem d_Office_cut_5 : decode b_Office_cut 5 = .ok (.ifCond .eq 16, 3) := by decide +kernel
theorem d_Office_cut_8 : decode b_Office_cut 8 = .ok (.aload_n 0, 1) := by decide +kernel
theorem d_Office_cut_9 : decode b_Office_cut 9 = .ok (.getfield 11, 3) := by decide +kernel
theorem d_Office_cut_12 : decode b_Office_cut 12 = .ok (.iload_n 1, 1) := by decide +kernel
theorem d_Office_cut_13 : decode b_Office_cut 13 = .ok (.aaload, 1) := by decide +kernel
theorem d_Office_cut_14 : decode b_Office_cut 14 = .ok (.getfield 183, 3) := by decide +kernel
theorem d_Office_cut_17 : decode b_Office_cut 17 = .ok (.iload_n 2, 1) := by decide +kernel
theorem d_Office_cut_18 : decode b_Office_cut 18 = .ok (.if_icmp .ge 5, 3) := by decide +kernel
theorem d_Office_cut_21 : decode b_Office_cut 21 = .ok (.iconst 0, 1) := by decide +kernel
theorem d_Office_cut_22 : decode b_Office_cut 22 = .ok (.ireturn, 1) := by decide +kernel
theorem d_Office_cut_23 : decode b_Office_cut 23 = .ok (.aload_n 0, 1) := by decide +kernel
theorem d_Office_cut_24 : decode b_Office_cut 24 = .ok (.getfield 11, 3) := by decide +kernel
theorem d_Office_cut_27 : decode b_Office_cut 27 = .ok (.iload_n 1, 1) := by decide +kernel
theorem d_Office_cut_28 : decode b_Office_cut 28 = .ok (.aaload, 1) := by decide +kernel
theorem d_Office_cut_29 : decode b_Office_cut 29 = .ok (.iload_n 2, 1) := by decide +kernel
theorem d_Office_cut_30 : decode b_Office_cut 30 = .ok (.aload_n 0, 1) := by decide +kernel
theorem d_Office_cut_31 : decode b_Office_cut 31 = .ok (.getfield 11, 3) := by decide +kernel
theorem d_Office_cut_34 : decode b_Office_cut 34 = .ok (.iload_n 3, 1) := by decide +kernel
theorem d_Office_cut_35 : decode b_Office_cut 35 = .ok (.aaload, 1) := by decide +kernel
theorem d_Office_cut_36 : decode b_Office_cut 36 = .ok (.invokevirtual 187, 3) := by decide +kernel
theorem d_Office_cut_39 : decode b_Office_cut 39 = .ok (.iconst 1, 1) := by decide +kernel
theorem d_Office_cut_40 : decode b_Office_cut 40 = .ok (.ireturn, 1) := by decide +kernel
theorem v_Office_cut : Cond.instanceMethod y_Office_cut ∈ nm_Ts ∧ Cond.selects y_Office_cut.cls y_Office_cut y_Office_cut ∈ nm_Ts ∧ Cond.initialized y_Office_cut.cls ∈ nm_Ts ∧ Cond.code y_Office_cut b_Office_cut 4 (some .boolean) ∈ nm_Ts ∧ mz_cl1 y_Office_cut 3 := ⟨nm_t2 68 rfl rfl, nm_t2 69 rfl rfl, nm_t1 1 rfl rfl, nm_t2 70 rfl rfl, by decide +kernel⟩
def y_Office_areTwoDecks : MethodName := ⟨"CardOffice", "areTwoDecks", "(II)Z"⟩
abbrev b_Office_areTwoDecks : ByteArray := prog_1_method_22_code
def r_Office_areTwoDecks (c s : Nat) : Room := { frames := 1, cells := c, slots := s, locals := 20 }
theorem d_Office_areTwoDecks_0 : decode b_Office_areTwoDecks 0 = .ok (.iload_n 0, 1) := by decide +kernel
theorem d_Office_areTwoDecks_1 : decode b_Office_areTwoDecks 1 = .ok (.invokestatic 62, 3) := by decide +kernel
theorem d_Office_areTwoDecks_4 : decode b_Office_areTwoDecks 4 = .ok (.ifCond .eq 19, 3) := by decide +kernel
theorem d_Office_areTwoDecks_7 : decode b_Office_areTwoDecks 7 = .ok (.iload_n 1, 1) := by decide +kernel
theorem d_Office_areTwoDecks_8 : decode b_Office_areTwoDecks 8 = .ok (.invokestatic 62, 3) := by decide +kernel
theorem d_Office_areTwoDecks_11 : decode b_Office_areTwoDecks 11 = .ok (.ifCond .eq 12, 3) := by decide +kernel
theorem d_Office_areTwoDecks_14 : decode b_Office_areTwoDecks 14 = .ok (.iload_n 0, 1) := by decide +kernel
theorem d_Office_areTwoDecks_15 : decode b_Office_areTwoDecks 15 = .ok (.iload_n 1, 1) := by decide +kernel
theorem d_Office_areTwoDecks_16 : decode b_Office_areTwoDecks 16 = .ok (.if_icmp .eq 7, 3) := by decide +kernel
theorem d_Office_areTwoDecks_19 : decode b_Office_areTwoDecks 19 = .ok (.iconst 1, 1) := by decide +kernel
theorem d_Office_areTwoDecks_20 : decode b_Office_areTwoDecks 20 = .ok (.goto 4, 3) := by decide +kernel
theorem d_Office_areTwoDecks_23 : decode b_Office_areTwoDecks 23 = .ok (.iconst 0, 1) := by decide +kernel
theorem d_Office_areTwoDecks_24 : decode b_Office_areTwoDecks 24 = .ok (.ireturn, 1) := by decide +kernel
theorem s_Office_areTwoDecks : Cond.static y_Office_areTwoDecks ∈ nm_Ts ∧ Cond.initialized y_Office_areTwoDecks.cls ∈ nm_Ts ∧ Cond.code y_Office_areTwoDecks b_Office_areTwoDecks 2 (some .boolean) ∈ nm_Ts ∧ mz_cl1 y_Office_areTwoDecks 2 := ⟨nm_t2 72 rfl rfl, nm_t1 1 rfl rfl, nm_t2 73 rfl rfl, by decide +kernel⟩
def y_Deck_moveFirst : MethodName := ⟨"CardOffice$Deck", "moveFirst", "(ILCardOffice$Deck;)V"⟩
abbrev b_Deck_moveFirst : ByteArray := prog_5_method_5_code
def r_Deck_moveFirst (c s : Nat) : Room := { frames := 1, cells := c, slots := s, locals := 21 }
theorem d_Deck_moveFirst_0 : decode b_Deck_moveFirst 0 = .ok (.iload_n 1, 1) := by decide +kernel
theorem d_Deck_moveFirst_1 : decode b_Deck_moveFirst 1 = .ok (.iconst 0, 1) := by decide +kernel
theorem d_Deck_moveFirst_2 : decode b_Deck_moveFirst 2 = .ok (.invokestatic 21, 3) := by decide +kernel
theorem d_Deck_moveFirst_5 : decode b_Deck_moveFirst 5 = .ok (.istore_n 3, 1) := by decide +kernel
theorem d_Deck_moveFirst_6 : decode b_Deck_moveFirst 6 = .ok (.iconst 0, 1) := by decide +kernel
theorem d_Deck_moveFirst_7 : decode b_Deck_moveFirst 7 = .ok (.istore 4, 2) := by decide +kernel
theorem d_Deck_moveFirst_9 : decode b_Deck_moveFirst 9 = .ok (.iload 4, 2) := by decide +kernel
theorem d_Deck_moveFirst_11 : decode b_Deck_moveFirst 11 = .ok (.iload_n 3, 1) := by decide +kernel
theorem d_Deck_moveFirst_12 : decode b_Deck_moveFirst 12 = .ok (.if_icmp .ge 20, 3) := by decide +kernel
theorem d_Deck_moveFirst_15 : decode b_Deck_moveFirst 15 = .ok (.aload_n 2, 1) := by decide +kernel
theorem d_Deck_moveFirst_16 : decode b_Deck_moveFirst 16 = .ok (.aload_n 0, 1) := by decide +kernel
theorem d_Deck_moveFirst_17 : decode b_Deck_moveFirst 17 = .ok (.getfield 11, 3) := by decide +kernel
theorem d_Deck_moveFirst_20 : decode b_Deck_moveFirst 20 = .ok (.iload 4, 2) := by decide +kernel
theorem d_Deck_moveFirst_22 : decode b_Deck_moveFirst 22 = .ok (.aaload, 1) := by decide +kernel
theorem d_Deck_moveFirst_23 : decode b_Deck_moveFirst 23 = .ok (.invokevirtual 27, 3) := by decide +kernel
theorem d_Deck_moveFirst_26 : decode b_Deck_moveFirst 26 = .ok (.iinc 4 1, 3) := by decide +kernel
theorem d_Deck_moveFirst_29 : decode b_Deck_moveFirst 29 = .ok (.goto (-20), 3) := by decide +kernel
theorem d_Deck_moveFirst_32 : decode b_Deck_moveFirst 32 = .ok (.iload_n 3, 1) := by decide +kernel
theorem d_Deck_moveFirst_33 : decode b_Deck_moveFirst 33 = .ok (.istore 4, 2) := by decide +kernel
theorem d_Deck_moveFirst_35 : decode b_Deck_moveFirst 35 = .ok (.iload 4, 2) := by decide +kernel
theorem d_Deck_moveFirst_37 : decode b_Deck_moveFirst 37 = .ok (.aload_n 0, 1) := by decide +kernel
theorem d_Deck_moveFirst_38 : decode b_Deck_moveFirst 38 = .ok (.getfield 17, 3) := by decide +kernel
theorem d_Deck_moveFirst_41 : decode b_Deck_moveFirst 41 = .ok (.if_icmp .ge 25, 3) := by decide +kernel
theorem d_Deck_moveFirst_44 : decode b_Deck_moveFirst 44 = .ok (.aload_n 0, 1) := by decide +kernel
theorem d_Deck_moveFirst_45 : decode b_Deck_moveFirst 45 = .ok (.getfield 11, 3) := by decide +kernel
theorem d_Deck_moveFirst_48 : decode b_Deck_moveFirst 48 = .ok (.iload 4, 2) := by decide +kernel
theorem d_Deck_moveFirst_50 : decode b_Deck_moveFirst 50 = .ok (.iload_n 3, 1) := by decide +kernel
theorem d_Deck_moveFirst_51 : decode b_Deck_moveFirst 51 = .ok (.isub, 1) := by decide +kernel
theorem d_Deck_moveFirst_52 : decode b_Deck_moveFirst 52 = .ok (.aload_n 0, 1) := by decide +kernel
theorem d_Deck_moveFirst_53 : decode b_Deck_moveFirst 53 = .ok (.getfield 11, 3) := by decide +kernel
theorem d_Deck_moveFirst_56 : decode b_Deck_moveFirst 56 = .ok (.iload 4, 2) := by decide +kernel
theorem d_Deck_moveFirst_58 : decode b_Deck_moveFirst 58 = .ok (.aaload, 1) := by decide +kernel
theorem d_Deck_moveFirst_59 : decode b_Deck_moveFirst 59 = .ok (.aastore, 1) := by decide +kernel
theorem d_Deck_moveFirst_60 : decode b_Deck_moveFirst 60 = .ok (.iinc 4 1, 3) := by decide +kernel
theorem d_Deck_moveFirst_63 : decode b_Deck_moveFirst 63 = .ok (.goto (-28), 3) := by decide +kernel
theorem d_Deck_moveFirst_66 : decode b_Deck_moveFirst 66 = .ok (.aload_n 0, 1) := by decide +kernel
theorem d_Deck_moveFirst_67 : decode b_Deck_moveFirst 67 = .ok (.dup, 1) := by decide +kernel
theorem d_Deck_moveFirst_68 : decode b_Deck_moveFirst 68 = .ok (.getfield 17, 3) := by decide +kernel
theorem d_Deck_moveFirst_71 : decode b_Deck_moveFirst 71 = .ok (.iload_n 3, 1) := by decide +kernel
theorem d_Deck_moveFirst_72 : decode b_Deck_moveFirst 72 = .ok (.isub, 1) := by decide +kernel
theorem d_Deck_moveFirst_73 : decode b_Deck_moveFirst 73 = .ok (.putfield 17, 3) := by decide +kernel
theorem d_Deck_moveFirst_76 : decode b_Deck_moveFirst 76 = .ok (.return_, 1) := by decide +kernel
theorem d_Deck_moveFirst : decode b_Deck_moveFirst 0 = .ok (.iload_n 1, 1) ∧ decode b_Deck_moveFirst 1 = .ok (.iconst 0, 1) ∧ decode b_Deck_moveFirst 2 = .ok (.invokestatic 21, 3) ∧ decode b_Deck_moveFirst 5 = .ok (.istore_n 3, 1) ∧ decode b_Deck_moveFirst 6 = .ok (.iconst 0, 1) ∧ decode b_Deck_moveFirst 7 = .ok (.istore 4, 2) ∧ decode b_Deck_moveFirst 9 = .ok (.iload 4, 2) ∧ decode b_Deck_moveFirst 11 = .ok (.iload_n 3, 1) ∧ decode b_Deck_moveFirst 12 = .ok (.if_icmp .ge 20, 3) ∧ decode b_Deck_moveFirst 15 = .ok (.aload_n 2, 1) ∧ decode b_Deck_moveFirst 16 = .ok (.aload_n 0, 1) ∧ decode b_Deck_moveFirst 17 = .ok (.getfield 11, 3) ∧ decode b_Deck_moveFirst 20 = .ok (.iload 4, 2) ∧ decode b_Deck_moveFirst 22 = .ok (.aaload, 1) ∧ decode b_Deck_moveFirst 23 = .ok (.invokevirtual 27, 3) ∧ decode b_Deck_moveFirst 26 = .ok (.iinc 4 1, 3) ∧ decode b_Deck_moveFirst 29 = .ok (.goto (-20), 3) ∧ decode b_Deck_moveFirst 32 = .ok (.iload_n 3, 1) ∧ decode b_Deck_moveFirst 33 = .ok (.istore 4, 2) ∧ decode b_Deck_moveFirst 35 = .ok (.iload 4, 2) ∧ decode b_Deck_moveFirst 37 = .ok (.aload_n 0, 1) ∧ decode b_Deck_moveFirst 38 = .ok (.getfield 17, 3) ∧ decode b_Deck_moveFirst 41 = .ok (.if_icmp .ge 25, 3) ∧ decode b_Deck_moveFirst 44 = .ok (.aload_n 0, 1) ∧ decode b_Deck_moveFirst 45 = .ok (.getfield 11, 3) ∧ decode b_Deck_moveFirst 48 = .ok (.iload 4, 2) ∧ decode b_Deck_moveFirst 50 = .ok (.iload_n 3, 1) ∧ decode b_Deck_moveFirst 51 = .ok (.isub, 1) ∧ decode b_Deck_moveFirst 52 = .ok (.aload_n 0, 1) ∧ decode b_Deck_moveFirst 53 = .ok (.getfield 11, 3) ∧ decode b_Deck_moveFirst 56 = .ok (.iload 4, 2) ∧ decode b_Deck_moveFirst 58 = .ok (.aaload, 1) ∧ decode b_Deck_moveFirst 59 = .ok (.aastore, 1) ∧ decode b_Deck_moveFirst 60 = .ok (.iinc 4 1, 3) ∧ decode b_Deck_moveFirst 63 = .ok (.goto (-28), 3) ∧ decode b_Deck_moveFirst 66 = .ok (.aload_n 0, 1) ∧ decode b_Deck_moveFirst 67 = .ok (.dup, 1) ∧ decode b_Deck_moveFirst 68 = .ok (.getfield 17, 3) ∧ decode b_Deck_moveFirst 71 = .ok (.iload_n 3, 1) ∧ decode b_Deck_moveFirst 72 = .ok (.isub, 1) ∧ decode b_Deck_moveFirst 73 = .ok (.putfield 17, 3) ∧ decode b_Deck_moveFirst 76 = .ok (.return_, 1) := ⟨d_Deck_moveFirst_0, d_Deck_moveFirst_1, d_Deck_moveFirst_2, d_Deck_moveFirst_5, d_Deck_moveFirst_6, d_Deck_moveFirst_7, d_Deck_moveFirst_9, d_Deck_moveFirst_11, d_Deck_moveFirst_12, d_Deck_moveFirst_15, d_Deck_moveFirst_16, d_Deck_moveFirst_17, d_Deck_moveFirst_20, d_Deck_moveFirst_22, d_Deck_moveFirst_23, d_Deck_moveFirst_26, d_Deck_moveFirst_29, d_Deck_moveFirst_32, d_Deck_moveFirst_33, d_Deck_moveFirst_35, d_Deck_moveFirst_37, d_Deck_moveFirst_38, d_Deck_moveFirst_41, d_Deck_moveFirst_44, d_Deck_moveFirst_45, d_Deck_moveFirst_48, d_Deck_moveFirst_50, d_Deck_moveFirst_51, d_Deck_moveFirst_52, d_Deck_moveFirst_53, d_Deck_moveFirst_56, d_Deck_moveFirst_58, d_Deck_moveFirst_59, d_Deck_moveFirst_60, d_Deck_moveFirst_63, d_Deck_moveFirst_66, d_Deck_moveFirst_67, d_Deck_moveFirst_68, d_Deck_moveFirst_71, d_Deck_moveFirst_72, d_Deck_moveFirst_73, d_Deck_moveFirst_76⟩
theorem v_Deck_moveFirst : Cond.instanceMethod y_Deck_moveFirst ∈ nm_Ts ∧ Cond.selects y_Deck_moveFirst.cls y_Deck_moveFirst y_Deck_moveFirst ∈ nm_Ts ∧ Cond.initialized y_Deck_moveFirst.cls ∈ nm_Ts ∧ Cond.code y_Deck_moveFirst b_Deck_moveFirst 5 none ∈ nm_Ts ∧ mz_cl1 y_Deck_moveFirst 2 := ⟨nm_t2 75 rfl rfl, nm_t2 76 rfl rfl, nm_t1 5 rfl rfl, nm_t2 77 rfl rfl, by decide +kernel⟩
def y_Office_tear : MethodName := ⟨"CardOffice", "tear", "()I"⟩
abbrev b_Office_tear : ByteArray := prog_1_method_18_code
def r_Office_tear (c s : Nat) : Room := { frames := 0, cells := c, slots := s, locals := 0 }
theorem d_Office_tear_0 : decode b_Office_tear 0 = .ok (.aload_n 0, 1) := by decide +kernel
theorem d_Office_tear_1 : decode b_Office_tear 1 = .ok (.getfield 56, 3) := by decide +kernel
theorem d_Office_tear_4 : decode b_Office_tear 4 = .ok (.getfield 200, 3) := by decide +kernel
theorem d_Office_tear_7 : decode b_Office_tear 7 = .ok (.getfield 204, 3) := by decide +kernel
theorem d_Office_tear_10 : decode b_Office_tear 10 = .ok (.istore_n 1, 1) := by decide +kernel
theorem d_Office_tear_11 : decode b_Office_tear 11 = .ok (.aload_n 0, 1) := by decide +kernel
theorem d_Office_tear_12 : decode b_Office_tear 12 = .ok (.getfield 56, 3) := by decide +kernel
theorem d_Office_tear_15 : decode b_Office_tear 15 = .ok (.getfield 200, 3) := by decide +kernel
theorem d_Office_tear_18 : decode b_Office_tear 18 = .ok (.iconst 0, 1) := by decide +kernel
theorem d_Office_tear_19 : decode b_Office_tear 19 = .ok (.putfield 204, 3) := by decide +kernel
theorem d_Office_tear_22 : decode b_Office_tear 22 = .ok (.iload_n 1, 1) := by decide +kernel
theorem d_Office_tear_23 : decode b_Office_tear 23 = .ok (.ireturn, 1) := by decide +kernel
theorem v_Office_tear : Cond.instanceMethod y_Office_tear ∈ nm_Ts ∧ Cond.selects y_Office_tear.cls y_Office_tear y_Office_tear ∈ nm_Ts ∧ Cond.initialized y_Office_tear.cls ∈ nm_Ts ∧ Cond.code y_Office_tear b_Office_tear 2 (some .int) ∈ nm_Ts ∧ mz_cl1 y_Office_tear 0 := ⟨nm_t2 83 rfl rfl, nm_t2 84 rfl rfl, nm_t1 1 rfl rfl, nm_t2 85 rfl rfl, by decide +kernel⟩
def y_Office_fault : MethodName := ⟨"CardOffice", "fault", "(I)I"⟩
abbrev b_Office_fault : ByteArray := prog_1_method_19_code
def r_Office_fault (c s : Nat) : Room := { frames := 0, cells := c, slots := s, locals := 0 }
theorem d_Office_fault_0 : decode b_Office_fault 0 = .ok (.iload_n 1, 1) := by decide +kernel
theorem d_Office_fault_1 : decode b_Office_fault 1 = .ok (.lookupswitch 43 #[(0, 27), (1, 35)], 27) := by decide +kernel
theorem d_Office_fault_28 : decode b_Office_fault 28 = .ok (.aload_n 0, 1) := by decide +kernel
theorem d_Office_fault_29 : decode b_Office_fault 29 = .ok (.getfield 28, 3) := by decide +kernel
theorem d_Office_fault_32 : decode b_Office_fault 32 = .ok (.getfield 219, 3) := by decide +kernel
theorem d_Office_fault_35 : decode b_Office_fault 35 = .ok (.ireturn, 1) := by decide +kernel
theorem d_Office_fault_36 : decode b_Office_fault 36 = .ok (.aload_n 0, 1) := by decide +kernel
theorem d_Office_fault_37 : decode b_Office_fault 37 = .ok (.getfield 28, 3) := by decide +kernel
theorem d_Office_fault_40 : decode b_Office_fault 40 = .ok (.getfield 222, 3) := by decide +kernel
theorem d_Office_fault_43 : decode b_Office_fault 43 = .ok (.ireturn, 1) := by decide +kernel
theorem d_Office_fault_44 : decode b_Office_fault 44 = .ok (.iconst (-1), 1) := by decide +kernel
theorem d_Office_fault_45 : decode b_Office_fault 45 = .ok (.ireturn, 1) := by decide +kernel
theorem d_Office_fault : decode b_Office_fault 0 = .ok (.iload_n 1, 1) ∧ decode b_Office_fault 1 = .ok (.lookupswitch 43 #[(0, 27), (1, 35)], 27) ∧ decode b_Office_fault 28 = .ok (.aload_n 0, 1) ∧ decode b_Office_fault 29 = .ok (.getfield 28, 3) ∧ decode b_Office_fault 32 = .ok (.getfield 219, 3) ∧ decode b_Office_fault 35 = .ok (.ireturn, 1) ∧ decode b_Office_fault 36 = .ok (.aload_n 0, 1) ∧ decode b_Office_fault 37 = .ok (.getfield 28, 3) ∧ decode b_Office_fault 40 = .ok (.getfield 222, 3) ∧ decode b_Office_fault 43 = .ok (.ireturn, 1) ∧ decode b_Office_fault 44 = .ok (.iconst (-1), 1) ∧ decode b_Office_fault 45 = .ok (.ireturn, 1) := ⟨d_Office_fault_0, d_Office_fault_1, d_Office_fault_28, d_Office_fault_29, d_Office_fault_32, d_Office_fault_35, d_Office_fault_36, d_Office_fault_37, d_Office_fault_40, d_Office_fault_43, d_Office_fault_44, d_Office_fault_45⟩
theorem v_Office_fault : Cond.instanceMethod y_Office_fault ∈ nm_Ts ∧ Cond.selects y_Office_fault.cls y_Office_fault y_Office_fault ∈ nm_Ts ∧ Cond.initialized y_Office_fault.cls ∈ nm_Ts ∧ Cond.code y_Office_fault b_Office_fault 2 (some .int) ∈ nm_Ts ∧ mz_cl1 y_Office_fault 1 := ⟨nm_t2 87 rfl rfl, nm_t2 88 rfl rfl, nm_t1 1 rfl rfl, nm_t2 89 rfl rfl, by decide +kernel⟩
def y_Office_count : MethodName := ⟨"CardOffice", "count", "(I)I"⟩
abbrev b_Office_count : ByteArray := prog_1_method_20_code
def r_Office_count (c s : Nat) : Room := { frames := 1, cells := c, slots := s, locals := 22 }
theorem d_Office_count_0 : decode b_Office_count 0 = .ok (.iload_n 1, 1) := by decide +kernel
theorem d_Office_count_1 : decode b_Office_count 1 = .ok (.invokestatic 62, 3) := by decide +kernel
theorem d_Office_count_4 : decode b_Office_count 4 = .ok (.ifCond .eq 13, 3) := by decide +kernel
theorem d_Office_count_7 : decode b_Office_count 7 = .ok (.aload_n 0, 1) := by decide +kernel
theorem d_Office_count_8 : decode b_Office_count 8 = .ok (.getfield 11, 3) := by decide +kernel
theorem d_Office_count_11 : decode b_Office_count 11 = .ok (.iload_n 1, 1) := by decide +kernel
theorem d_Office_count_12 : decode b_Office_count 12 = .ok (.aaload, 1) := by decide +kernel
theorem d_Office_count_13 : decode b_Office_count 13 = .ok (.getfield 183, 3) := by decide +kernel
theorem d_Office_count_16 : decode b_Office_count 16 = .ok (.ireturn, 1) := by decide +kernel
theorem d_Office_count_17 : decode b_Office_count 17 = .ok (.iload_n 1, 1) := by decide +kernel
theorem d_Office_count_18 : decode b_Office_count 18 = .ok (.bipush 10, 2) := by decide +kernel
theorem d_Office_count_20 : decode b_Office_count 20 = .ok (.isub, 1) := by decide +kernel
theorem d_Office_count_21 : decode b_Office_count 21 = .ok (.invokestatic 84, 3) := by decide +kernel
theorem d_Office_count_24 : decode b_Office_count 24 = .ok (.ifCond .eq 16, 3) := by decide +kernel
theorem d_Office_count_27 : decode b_Office_count 27 = .ok (.aload_n 0, 1) := by decide +kernel
theorem d_Office_count_28 : decode b_Office_count 28 = .ok (.getfield 17, 3) := by decide +kernel
theorem d_Office_count_31 : decode b_Office_count 31 = .ok (.iload_n 1, 1) := by decide +kernel
theorem d_Office_count_32 : decode b_Office_count 32 = .ok (.bipush 10, 2) := by decide +kernel
theorem d_Office_count_34 : decode b_Office_count 34 = .ok (.isub, 1) := by decide +kernel
theorem d_Office_count_35 : decode b_Office_count 35 = .ok (.aaload, 1) := by decide +kernel
theorem d_Office_count_36 : decode b_Office_count 36 = .ok (.getfield 225, 3) := by decide +kernel
theorem d_Office_count_39 : decode b_Office_count 39 = .ok (.ireturn, 1) := by decide +kernel
theorem d_Office_count_40 : decode b_Office_count 40 = .ok (.iload_n 1, 1) := by decide +kernel
theorem d_Office_count_41 : decode b_Office_count 41 = .ok (.tableswitch 79 8 15 #[47, 52, 79, 79, 79, 79, 63, 71], 47) := by decide +kernel
theorem d_Office_count_88 : decode b_Office_count 88 = .ok (.aload_n 0, 1) := by decide +kernel
theorem d_Office_count_89 : decode b_Office_count 89 = .ok (.invokevirtual 66, 3) := by decide +kernel
theorem d_Office_count_92 : decode b_Office_count 92 = .ok (.ireturn, 1) := by decide +kernel
theorem d_Office_count_93 : decode b_Office_count 93 = .ok (.aload_n 0, 1) := by decide +kernel
theorem d_Office_count_94 : decode b_Office_count 94 = .ok (.getfield 56, 3) := by decide +kernel
theorem d_Office_count_97 : decode b_Office_count 97 = .ok (.getfield 200, 3) := by decide +kernel
theorem d_Office_count_100 : decode b_Office_count 100 = .ok (.getfield 204, 3) := by decide +kernel
theorem d_Office_count_103 : decode b_Office_count 103 = .ok (.ireturn, 1) := by decide +kernel
theorem d_Office_count_104 : decode b_Office_count 104 = .ok (.aload_n 0, 1) := by decide +kernel
theorem d_Office_count_105 : decode b_Office_count 105 = .ok (.getfield 35, 3) := by decide +kernel
theorem d_Office_count_108 : decode b_Office_count 108 = .ok (.getfield 228, 3) := by decide +kernel
theorem d_Office_count_111 : decode b_Office_count 111 = .ok (.ireturn, 1) := by decide +kernel
theorem d_Office_count_112 : decode b_Office_count 112 = .ok (.aload_n 0, 1) := by decide +kernel
theorem d_Office_count_113 : decode b_Office_count 113 = .ok (.getfield 42, 3) := by decide +kernel
theorem d_Office_count_116 : decode b_Office_count 116 = .ok (.getfield 231, 3) := by decide +kernel
theorem d_Office_count_119 : decode b_Office_count 119 = .ok (.ireturn, 1) := by decide +kernel
theorem d_Office_count_120 : decode b_Office_count 120 = .ok (.iconst (-1), 1) := by decide +kernel
theorem d_Office_count_121 : decode b_Office_count 121 = .ok (.ireturn, 1) := by decide +kernel
theorem d_Office_count : decode b_Office_count 0 = .ok (.iload_n 1, 1) ∧ decode b_Office_count 1 = .ok (.invokestatic 62, 3) ∧ decode b_Office_count 4 = .ok (.ifCond .eq 13, 3) ∧ decode b_Office_count 7 = .ok (.aload_n 0, 1) ∧ decode b_Office_count 8 = .ok (.getfield 11, 3) ∧ decode b_Office_count 11 = .ok (.iload_n 1, 1) ∧ decode b_Office_count 12 = .ok (.aaload, 1) ∧ decode b_Office_count 13 = .ok (.getfield 183, 3) ∧ decode b_Office_count 16 = .ok (.ireturn, 1) ∧ decode b_Office_count 17 = .ok (.iload_n 1, 1) ∧ decode b_Office_count 18 = .ok (.bipush 10, 2) ∧ decode b_Office_count 20 = .ok (.isub, 1) ∧ decode b_Office_count 21 = .ok (.invokestatic 84, 3) ∧ decode b_Office_count 24 = .ok (.ifCond .eq 16, 3) ∧ decode b_Office_count 27 = .ok (.aload_n 0, 1) ∧ decode b_Office_count 28 = .ok (.getfield 17, 3) ∧ decode b_Office_count 31 = .ok (.iload_n 1, 1) ∧ decode b_Office_count 32 = .ok (.bipush 10, 2) ∧ decode b_Office_count 34 = .ok (.isub, 1) ∧ decode b_Office_count 35 = .ok (.aaload, 1) ∧ decode b_Office_count 36 = .ok (.getfield 225, 3) ∧ decode b_Office_count 39 = .ok (.ireturn, 1) ∧ decode b_Office_count 40 = .ok (.iload_n 1, 1) ∧ decode b_Office_count 41 = .ok (.tableswitch 79 8 15 #[47, 52, 79, 79, 79, 79, 63, 71], 47) ∧ decode b_Office_count 88 = .ok (.aload_n 0, 1) ∧ decode b_Office_count 89 = .ok (.invokevirtual 66, 3) ∧ decode b_Office_count 92 = .ok (.ireturn, 1) ∧ decode b_Office_count 93 = .ok (.aload_n 0, 1) ∧ decode b_Office_count 94 = .ok (.getfield 56, 3) ∧ decode b_Office_count 97 = .ok (.getfield 200, 3) ∧ decode b_Office_count 100 = .ok (.getfield 204, 3) ∧ decode b_Office_count 103 = .ok (.ireturn, 1) ∧ decode b_Office_count 104 = .ok (.aload_n 0, 1) ∧ decode b_Office_count 105 = .ok (.getfield 35, 3) ∧ decode b_Office_count 108 = .ok (.getfield 228, 3) ∧ decode b_Office_count 111 = .ok (.ireturn, 1) ∧ decode b_Office_count 112 = .ok (.aload_n 0, 1) ∧ decode b_Office_count 113 = .ok (.getfield 42, 3) ∧ decode b_Office_count 116 = .ok (.getfield 231, 3) ∧ decode b_Office_count 119 = .ok (.ireturn, 1) ∧ decode b_Office_count 120 = .ok (.iconst (-1), 1) ∧ decode b_Office_count 121 = .ok (.ireturn, 1) := ⟨d_Office_count_0, d_Office_count_1, d_Office_count_4, d_Office_count_7, d_Office_count_8, d_Office_count_11, d_Office_count_12, d_Office_count_13, d_Office_count_16, d_Office_count_17, d_Office_count_18, d_Office_count_20, d_Office_count_21, d_Office_count_24, d_Office_count_27, d_Office_count_28, d_Office_count_31, d_Office_count_32, d_Office_count_34, d_Office_count_35, d_Office_count_36, d_Office_count_39, d_Office_count_40, d_Office_count_41, d_Office_count_88, d_Office_count_89, d_Office_count_92, d_Office_count_93, d_Office_count_94, d_Office_count_97, d_Office_count_100, d_Office_count_103, d_Office_count_104, d_Office_count_105, d_Office_count_108, d_Office_count_111, d_Office_count_112, d_Office_count_113, d_Office_count_116, d_Office_count_119, d_Office_count_120, d_Office_count_121⟩
theorem v_Office_count : Cond.instanceMethod y_Office_count ∈ nm_Ts ∧ Cond.selects y_Office_count.cls y_Office_count y_Office_count ∈ nm_Ts ∧ Cond.initialized y_Office_count.cls ∈ nm_Ts ∧ Cond.code y_Office_count b_Office_count 2 (some .int) ∈ nm_Ts ∧ mz_cl1 y_Office_count 1 := ⟨nm_t2 91 rfl rfl, nm_t2 92 rfl rfl, nm_t1 1 rfl rfl, nm_t2 93 rfl rfl, by decide +kernel⟩
def y_Office_pass : MethodName := ⟨"CardOffice", "pass", "(IIZ)I"⟩
abbrev b_Office_pass : ByteArray := prog_1_method_6_code
def r_Office_pass (c s : Nat) : Room := { frames := 7, cells := c, slots := s, locals := 113 }
theorem d_Office_pass_0 : decode b_Office_pass 0 = .ok (.iload_n 1, 1) := by decide +kernel
theorem d_Office_pass_1 : decode b_Office_pass 1 = .ok (.invokestatic 62, 3) := by decide +kernel
theorem d_Office_pass_4 : decode b_Office_pass 4 = .ok (.ifCond .eq 10, 3) := by decide +kernel
theorem d_Office_pass_7 : decode b_Office_pass 7 = .ok (.iload_n 2, 1) := by decide +kernel
theorem d_Office_pass_8 : decode b_Office_pass 8 = .ok (.invokestatic 106, 3) := by decide +kernel
theorem d_Office_pass_11 : decode b_Office_pass 11 = .ok (.ifCond .ne 13, 3) := by decide +kernel
theorem d_Office_pass_14 : decode b_Office_pass 14 = .ok (.new 109, 3) := by decide +kernel
theorem d_Office_pass_17 : decode b_Office_pass 17 = .ok (.dup, 1) := by decide +kernel
theorem d_Office_pass_18 : decode b_Office_pass 18 = .ok (.ldc 111, 2) := by decide +kernel
theorem d_Office_pass_20 : decode b_Office_pass 20 = .ok (.invokespecial 113, 3) := by decide +kernel
theorem d_Office_pass_23 : decode b_Office_pass 23 = .ok (.athrow, 1) := by decide +kernel
theorem d_Office_pass_24 : decode b_Office_pass 24 = .ok (.aload_n 0, 1) := by decide +kernel
theorem d_Office_pass_25 : decode b_Office_pass 25 = .ok (.getfield 35, 3) := by decide +kernel
theorem d_Office_pass_28 : decode b_Office_pass 28 = .ok (.aload_n 0, 1) := by decide +kernel
theorem d_Office_pass_29 : decode b_Office_pass 29 = .ok (.getfield 11, 3) := by decide +kernel
theorem d_Office_pass_32 : decode b_Office_pass 32 = .ok (.iload_n 1, 1) := by decide +kernel
theorem d_Office_pass_33 : decode b_Office_pass 33 = .ok (.aaload, 1) := by decide +kernel
theorem d_Office_pass_34 : decode b_Office_pass 34 = .ok (.iload_n 2, 1) := by decide +kernel
theorem d_Office_pass_35 : decode b_Office_pass 35 = .ok (.iload_n 3, 1) := by decide +kernel
theorem d_Office_pass_36 : decode b_Office_pass 36 = .ok (.invokevirtual 116, 3) := by decide +kernel
theorem d_Office_pass_39 : decode b_Office_pass 39 = .ok (.ireturn, 1) := by decide +kernel
theorem d_Office_pass : decode b_Office_pass 0 = .ok (.iload_n 1, 1) ∧ decode b_Office_pass 1 = .ok (.invokestatic 62, 3) ∧ decode b_Office_pass 4 = .ok (.ifCond .eq 10, 3) ∧ decode b_Office_pass 7 = .ok (.iload_n 2, 1) ∧ decode b_Office_pass 8 = .ok (.invokestatic 106, 3) ∧ decode b_Office_pass 11 = .ok (.ifCond .ne 13, 3) ∧ decode b_Office_pass 14 = .ok (.new 109, 3) ∧ decode b_Office_pass 17 = .ok (.dup, 1) ∧ decode b_Office_pass 18 = .ok (.ldc 111, 2) ∧ decode b_Office_pass 20 = .ok (.invokespecial 113, 3) ∧ decode b_Office_pass 23 = .ok (.athrow, 1) ∧ decode b_Office_pass 24 = .ok (.aload_n 0, 1) ∧ decode b_Office_pass 25 = .ok (.getfield 35, 3) ∧ decode b_Office_pass 28 = .ok (.aload_n 0, 1) ∧ decode b_Office_pass 29 = .ok (.getfield 11, 3) ∧ decode b_Office_pass 32 = .ok (.iload_n 1, 1) ∧ decode b_Office_pass 33 = .ok (.aaload, 1) ∧ decode b_Office_pass 34 = .ok (.iload_n 2, 1) ∧ decode b_Office_pass 35 = .ok (.iload_n 3, 1) ∧ decode b_Office_pass 36 = .ok (.invokevirtual 116, 3) ∧ decode b_Office_pass 39 = .ok (.ireturn, 1) := ⟨d_Office_pass_0, d_Office_pass_1, d_Office_pass_4, d_Office_pass_7, d_Office_pass_8, d_Office_pass_11, d_Office_pass_14, d_Office_pass_17, d_Office_pass_18, d_Office_pass_20, d_Office_pass_23, d_Office_pass_24, d_Office_pass_25, d_Office_pass_28, d_Office_pass_29, d_Office_pass_32, d_Office_pass_33, d_Office_pass_34, d_Office_pass_35, d_Office_pass_36, d_Office_pass_39⟩
theorem v_Office_pass : Cond.instanceMethod y_Office_pass ∈ nm_Ts ∧ Cond.selects y_Office_pass.cls y_Office_pass y_Office_pass ∈ nm_Ts ∧ Cond.initialized y_Office_pass.cls ∈ nm_Ts ∧ Cond.code y_Office_pass b_Office_pass 4 (some .int) ∈ nm_Ts ∧ mz_cl1 y_Office_pass 3 := ⟨nm_t2 99 rfl rfl, nm_t2 100 rfl rfl, nm_t1 1 rfl rfl, nm_t2 101 rfl rfl, by decide +kernel⟩
def y_Sorter_passOnce : MethodName := ⟨"CardOffice$Sorter", "passOnce", "(LCardOffice$Deck;IZ)I"⟩
abbrev b_Sorter_passOnce : ByteArray := prog_11_method_2_code
def r_Sorter_passOnce (c s : Nat) : Room := { frames := 4, cells := c, slots := s, locals := 87 }
theorem d_Sorter_passOnce_0 : decode b_Sorter_passOnce 0 = .ok (.aload_n 0, 1) := by decide +kernel
theorem d_Sorter_passOnce_1 : decode b_Sorter_passOnce 1 = .ok (.dup, 1) := by decide +kernel
theorem d_Sorter_passOnce_2 : decode b_Sorter_passOnce 2 = .ok (.getfield 21, 3) := by decide +kernel
theorem d_Sorter_passOnce_5 : decode b_Sorter_passOnce 5 = .ok (.iconst 1, 1) := by decide +kernel
theorem d_Sorter_passOnce_6 : decode b_Sorter_passOnce 6 = .ok (.iadd, 1) := by decide +kernel
theorem d_Sorter_passOnce_7 : decode b_Sorter_passOnce 7 = .ok (.putfield 21, 3) := by decide +kernel
theorem d_Sorter_passOnce_10 : decode b_Sorter_passOnce 10 = .ok (.aload_n 0, 1) := by decide +kernel
theorem d_Sorter_passOnce_11 : decode b_Sorter_passOnce 11 = .ok (.aload_n 1, 1) := by decide +kernel
theorem d_Sorter_passOnce_12 : decode b_Sorter_passOnce 12 = .ok (.iload_n 2, 1) := by decide +kernel
theorem d_Sorter_passOnce_13 : decode b_Sorter_passOnce 13 = .ok (.iload_n 3, 1) := by decide +kernel
theorem d_Sorter_passOnce_14 : decode b_Sorter_passOnce 14 = .ok (.invokevirtual 25, 3) := by decide +kernel
theorem d_Sorter_passOnce_17 : decode b_Sorter_passOnce 17 = .ok (.aload_n 0, 1) := by decide +kernel
theorem d_Sorter_passOnce_18 : decode b_Sorter_passOnce 18 = .ok (.invokevirtual 29, 3) := by decide +kernel
theorem d_Sorter_passOnce_21 : decode b_Sorter_passOnce 21 = .ok (.istore 4, 2) := by decide +kernel
theorem d_Sorter_passOnce_23 : decode b_Sorter_passOnce 23 = .ok (.iconst 0, 1) := by decide +kernel
theorem d_Sorter_passOnce_24 : decode b_Sorter_passOnce 24 = .ok (.istore 5, 2) := by decide +kernel
theorem d_Sorter_passOnce_26 : decode b_Sorter_passOnce 26 = .ok (.iload 5, 2) := by decide +kernel
theorem d_Sorter_passOnce_28 : decode b_Sorter_passOnce 28 = .ok (.aload_n 1, 1) := by decide +kernel
theorem d_Sorter_passOnce_29 : decode b_Sorter_passOnce 29 = .ok (.getfield 33, 3) := by decide +kernel
theorem d_Sorter_passOnce_32 : decode b_Sorter_passOnce 32 = .ok (.if_icmp .ge 51, 3) := by decide +kernel
theorem d_Sorter_passOnce_35 : decode b_Sorter_passOnce 35 = .ok (.aload_n 1, 1) := by decide +kernel
theorem d_Sorter_passOnce_36 : decode b_Sorter_passOnce 36 = .ok (.iload 5, 2) := by decide +kernel
theorem d_Sorter_passOnce_38 : decode b_Sorter_passOnce 38 = .ok (.invokevirtual 38, 3) := by decide +kernel
theorem d_Sorter_passOnce_41 : decode b_Sorter_passOnce 41 = .ok (.iload_n 2, 1) := by decide +kernel
theorem d_Sorter_passOnce_42 : decode b_Sorter_passOnce 42 = .ok (.iload_n 3, 1) := by decide +kernel
theorem d_Sorter_passOnce_43 : decode b_Sorter_passOnce 43 = .ok (.invokestatic 42, 3) := by decide +kernel
theorem d_Sorter_passOnce_46 : decode b_Sorter_passOnce 46 = .ok (.istore 6, 2) := by decide +kernel
theorem d_Sorter_passOnce_48 : decode b_Sorter_passOnce 48 = .ok (.aload_n 0, 1) := by decide +kernel
theorem d_Sorter_passOnce_49 : decode b_Sorter_passOnce 49 = .ok (.getfield 17, 3) := by decide +kernel
theorem d_Sorter_passOnce_52 : decode b_Sorter_passOnce 52 = .ok (.aload_n 0, 1) := by decide +kernel
theorem d_Sorter_passOnce_53 : decode b_Sorter_passOnce 53 = .ok (.getfield 9, 3) := by decide +kernel
theorem d_Sorter_passOnce_56 : decode b_Sorter_passOnce 56 = .ok (.iload 6, 2) := by decide +kernel
theorem d_Sorter_passOnce_58 : decode b_Sorter_passOnce 58 = .ok (.iaload, 1) := by decide +kernel
theorem d_Sorter_passOnce_59 : decode b_Sorter_passOnce 59 = .ok (.aload_n 1, 1) := by decide +kernel
theorem d_Sorter_passOnce_60 : decode b_Sorter_passOnce 60 = .ok (.iload 5, 2) := by decide +kernel
theorem d_Sorter_passOnce_62 : decode b_Sorter_passOnce 62 = .ok (.invokevirtual 38, 3) := by decide +kernel
theorem d_Sorter_passOnce_65 : decode b_Sorter_passOnce 65 = .ok (.aastore, 1) := by decide +kernel
theorem d_Sorter_passOnce_66 : decode b_Sorter_passOnce 66 = .ok (.aload_n 0, 1) := by decide +kernel
theorem d_Sorter_passOnce_67 : decode b_Sorter_passOnce 67 = .ok (.getfield 9, 3) := by decide +kernel
theorem d_Sorter_passOnce_70 : decode b_Sorter_passOnce 70 = .ok (.iload 6, 2) := by decide +kernel
theorem d_Sorter_passOnce_72 : decode b_Sorter_passOnce 72 = .ok (.dup2, 1) := by decide +kernel
theorem d_Sorter_passOnce_73 : decode b_Sorter_passOnce 73 = .ok (.iaload, 1) := by decide +kernel
theorem d_Sorter_passOnce_74 : decode b_Sorter_passOnce 74 = .ok (.iconst 1, 1) := by decide +kernel
theorem d_Sorter_passOnce_75 : decode b_Sorter_passOnce 75 = .ok (.iadd, 1) := by decide +kernel
theorem d_Sorter_passOnce_76 : decode b_Sorter_passOnce 76 = .ok (.iastore, 1) := by decide +kernel
theorem d_Sorter_passOnce_77 : decode b_Sorter_passOnce 77 = .ok (.iinc 5 1, 3) := by decide +kernel
theorem d_Sorter_passOnce_80 : decode b_Sorter_passOnce 80 = .ok (.goto (-54), 3) := by decide +kernel
theorem d_Sorter_passOnce_83 : decode b_Sorter_passOnce 83 = .ok (.iconst 0, 1) := by decide +kernel
theorem d_Sorter_passOnce_84 : decode b_Sorter_passOnce 84 = .ok (.istore 5, 2) := by decide +kernel
theorem d_Sorter_passOnce_86 : decode b_Sorter_passOnce 86 = .ok (.iload 5, 2) := by decide +kernel
theorem d_Sorter_passOnce_88 : decode b_Sorter_passOnce 88 = .ok (.aload_n 1, 1) := by decide +kernel
theorem d_Sorter_passOnce_89 : decode b_Sorter_passOnce 89 = .ok (.getfield 33, 3) := by decide +kernel
theorem d_Sorter_passOnce_92 : decode b_Sorter_passOnce 92 = .ok (.if_icmp .ge 23, 3) := by decide +kernel
theorem d_Sorter_passOnce_95 : decode b_Sorter_passOnce 95 = .ok (.aload_n 1, 1) := by decide +kernel
theorem d_Sorter_passOnce_96 : decode b_Sorter_passOnce 96 = .ok (.getfield 46, 3) := by decide +kernel
theorem d_Sorter_passOnce_99 : decode b_Sorter_passOnce 99 = .ok (.iload 5, 2) := by decide +kernel
theorem d_Sorter_passOnce_101 : decode b_Sorter_passOnce 101 = .ok (.aload_n 0, 1) := by decide +kernel
theorem d_Sorter_passOnce_102 : decode b_Sorter_passOnce 102 = .ok (.getfield 17, 3) := by decide +kernel
theorem d_Sorter_passOnce_105 : decode b_Sorter_passOnce 105 = .ok (.iload 5, 2) := by decide +kernel
theorem d_Sorter_passOnce_107 : decode b_Sorter_passOnce 107 = .ok (.aaload, 1) := by decide +kernel
theorem d_Sorter_passOnce_108 : decode b_Sorter_passOnce 108 = .ok (.aastore, 1) := by decide +kernel
theorem d_Sorter_passOnce_109 : decode b_Sorter_passOnce 109 = .ok (.iinc 5 1, 3) := by decide +kernel
theorem d_Sorter_passOnce_112 : decode b_Sorter_passOnce 112 = .ok (.goto (-26), 3) := by decide +kernel
theorem d_Sorter_passOnce_115 : decode b_Sorter_passOnce 115 = .ok (.iload 4, 2) := by decide +kernel
theorem d_Sorter_passOnce_117 : decode b_Sorter_passOnce 117 = .ok (.ireturn, 1) := by decide +kernel
theorem v_Sorter_passOnce : Cond.instanceMethod y_Sorter_passOnce ∈ nm_Ts ∧ Cond.selects y_Sorter_passOnce.cls y_Sorter_passOnce y_Sorter_passOnce ∈ nm_Ts ∧ Cond.initialized y_Sorter_passOnce.cls ∈ nm_Ts ∧ Cond.code y_Sorter_passOnce b_Sorter_passOnce 7 (some .int) ∈ nm_Ts ∧ mz_cl1 y_Sorter_passOnce 3 := ⟨nm_t2 171 rfl rfl, nm_t2 172 rfl rfl, nm_t1 3 rfl rfl, nm_t2 173 rfl rfl, by decide +kernel⟩
def y_Sorter_fillPockets : MethodName := ⟨"CardOffice$Sorter", "fillPockets", "(LCardOffice$Deck;IZ)V"⟩
abbrev b_Sorter_fillPockets : ByteArray := prog_11_method_4_code
def r_Sorter_fillPockets (c s : Nat) : Room := { frames := 3, cells := c, slots := s, locals := 63 }
theorem d_Sorter_fillPockets_0 : decode b_Sorter_fillPockets 0 = .ok (.aload_n 0, 1) := by decide +kernel
theorem d_Sorter_fillPockets_1 : decode b_Sorter_fillPockets 1 = .ok (.getfield 9, 3) := by decide +kernel
theorem d_Sorter_fillPockets_4 : decode b_Sorter_fillPockets 4 = .ok (.iconst 0, 1) := by decide +kernel
theorem d_Sorter_fillPockets_5 : decode b_Sorter_fillPockets 5 = .ok (.invokestatic 61, 3) := by decide +kernel
theorem d_Sorter_fillPockets_8 : decode b_Sorter_fillPockets 8 = .ok (.iconst 0, 1) := by decide +kernel
theorem d_Sorter_fillPockets_9 : decode b_Sorter_fillPockets 9 = .ok (.istore 4, 2) := by decide +kernel
theorem d_Sorter_fillPockets_11 : decode b_Sorter_fillPockets 11 = .ok (.iload 4, 2) := by decide +kernel
theorem d_Sorter_fillPockets_13 : decode b_Sorter_fillPockets 13 = .ok (.aload_n 1, 1) := by decide +kernel
theorem d_Sorter_fillPockets_14 : decode b_Sorter_fillPockets 14 = .ok (.getfield 33, 3) := by decide +kernel
theorem d_Sorter_fillPockets_17 : decode b_Sorter_fillPockets 17 = .ok (.if_icmp .ge 29, 3) := by decide +kernel
theorem d_Sorter_fillPockets_20 : decode b_Sorter_fillPockets 20 = .ok (.aload_n 0, 1) := by decide +kernel
theorem d_Sorter_fillPockets_21 : decode b_Sorter_fillPockets 21 = .ok (.getfield 9, 3) := by decide +kernel
theorem d_Sorter_fillPockets_24 : decode b_Sorter_fillPockets 24 = .ok (.aload_n 1, 1) := by decide +kernel
theorem d_Sorter_fillPockets_25 : decode b_Sorter_fillPockets 25 = .ok (.iload 4, 2) := by decide +kernel
theorem d_Sorter_fillPockets_27 : decode b_Sorter_fillPockets 27 = .ok (.invokevirtual 38, 3) := by decide +kernel
theorem d_Sorter_fillPockets_30 : decode b_Sorter_fillPockets 30 = .ok (.iload_n 2, 1) := by decide +kernel
theorem d_Sorter_fillPockets_31 : decode b_Sorter_fillPockets 31 = .ok (.iload_n 3, 1) := by decide +kernel
theorem d_Sorter_fillPockets_32 : decode b_Sorter_fillPockets 32 = .ok (.invokestatic 42, 3) := by decide +kernel
theorem d_Sorter_fillPockets_35 : decode b_Sorter_fillPockets 35 = .ok (.dup2, 1) := by decide +kernel
theorem d_Sorter_fillPockets_36 : decode b_Sorter_fillPockets 36 = .ok (.iaload, 1) := by decide +kernel
theorem d_Sorter_fillPockets_37 : decode b_Sorter_fillPockets 37 = .ok (.iconst 1, 1) := by decide +kernel
theorem d_Sorter_fillPockets_38 : decode b_Sorter_fillPockets 38 = .ok (.iadd, 1) := by decide +kernel
theorem d_Sorter_fillPockets_39 : decode b_Sorter_fillPockets 39 = .ok (.iastore, 1) := by decide +kernel
theorem d_Sorter_fillPockets_40 : decode b_Sorter_fillPockets 40 = .ok (.iinc 4 1, 3) := by decide +kernel
theorem d_Sorter_fillPockets_43 : decode b_Sorter_fillPockets 43 = .ok (.goto (-32), 3) := by decide +kernel
theorem d_Sorter_fillPockets_46 : decode b_Sorter_fillPockets 46 = .ok (.return_, 1) := by decide +kernel
theorem v_Sorter_fillPockets : Cond.instanceMethod y_Sorter_fillPockets ∈ nm_Ts ∧ Cond.selects y_Sorter_fillPockets.cls y_Sorter_fillPockets y_Sorter_fillPockets ∈ nm_Ts ∧ Cond.initialized y_Sorter_fillPockets.cls ∈ nm_Ts ∧ Cond.code y_Sorter_fillPockets b_Sorter_fillPockets 5 none ∈ nm_Ts ∧ mz_cl1 y_Sorter_fillPockets 3 := ⟨nm_t2 176 rfl rfl, nm_s 4 rfl rfl, nm_t1 3 rfl rfl, nm_t2 177 rfl rfl, by decide +kernel⟩
def y_Deck_at : MethodName := ⟨"CardOffice$Deck", "at", "(I)LCardOffice$Card;"⟩
abbrev b_Deck_at : ByteArray := prog_5_method_2_code
def r_Deck_at (c s : Nat) : Room := { frames := 0, cells := c, slots := s, locals := 0 }
theorem d_Deck_at_0 : decode b_Deck_at 0 = .ok (.aload_n 0, 1) := by decide +kernel
theorem d_Deck_at_1 : decode b_Deck_at 1 = .ok (.getfield 11, 3) := by decide +kernel
theorem d_Deck_at_4 : decode b_Deck_at 4 = .ok (.iload_n 1, 1) := by decide +kernel
theorem d_Deck_at_5 : decode b_Deck_at 5 = .ok (.aaload, 1) := by decide +kernel
theorem d_Deck_at_6 : decode b_Deck_at 6 = .ok (.areturn, 1) := by decide +kernel
theorem v_Deck_at : Cond.instanceMethod y_Deck_at ∈ nm_Ts ∧ Cond.selects y_Deck_at.cls y_Deck_at y_Deck_at ∈ nm_Ts ∧ Cond.initialized y_Deck_at.cls ∈ nm_Ts ∧ Cond.code y_Deck_at b_Deck_at 2 (some (.object "CardOffice$Card")) ∈ nm_Ts ∧ mz_cl1 y_Deck_at 1 := ⟨nm_t2 180 rfl rfl, nm_t2 181 rfl rfl, nm_t1 5 rfl rfl, nm_t2 182 rfl rfl, by decide +kernel⟩
def y_Sorter_pocketOf : MethodName := ⟨"CardOffice$Sorter", "pocketOf", "(LCardOffice$Card;IZ)I"⟩
abbrev b_Sorter_pocketOf : ByteArray := prog_11_method_6_code
def r_Sorter_pocketOf (c s : Nat) : Room := { frames := 2, cells := c, slots := s, locals := 40 }
theorem d_Sorter_pocketOf_0 : decode b_Sorter_pocketOf 0 = .ok (.aload_n 0, 1) := by decide +kernel
theorem d_Sorter_pocketOf_1 : decode b_Sorter_pocketOf 1 = .ok (.getfield 67, 3) := by decide +kernel
theorem d_Sorter_pocketOf_4 : decode b_Sorter_pocketOf 4 = .ok (.iload_n 1, 1) := by decide +kernel
theorem d_Sorter_pocketOf_5 : decode b_Sorter_pocketOf 5 = .ok (.iaload, 1) := by decide +kernel
theorem d_Sorter_pocketOf_6 : decode b_Sorter_pocketOf 6 = .ok (.istore_n 3, 1) := by decide +kernel
theorem d_Sorter_pocketOf_7 : decode b_Sorter_pocketOf 7 = .ok (.iload_n 2, 1) := by decide +kernel
theorem d_Sorter_pocketOf_8 : decode b_Sorter_pocketOf 8 = .ok (.ifCond .eq 10, 3) := by decide +kernel
theorem d_Sorter_pocketOf_11 : decode b_Sorter_pocketOf 11 = .ok (.iload_n 3, 1) := by decide +kernel
theorem d_Sorter_pocketOf_12 : decode b_Sorter_pocketOf 12 = .ok (.invokestatic 70, 3) := by decide +kernel
theorem d_Sorter_pocketOf_15 : decode b_Sorter_pocketOf 15 = .ok (.goto 7, 3) := by decide +kernel
theorem d_Sorter_pocketOf_18 : decode b_Sorter_pocketOf 18 = .ok (.iload_n 3, 1) := by decide +kernel
theorem d_Sorter_pocketOf_19 : decode b_Sorter_pocketOf 19 = .ok (.invokestatic 74, 3) := by decide +kernel
theorem d_Sorter_pocketOf_22 : decode b_Sorter_pocketOf 22 = .ok (.ireturn, 1) := by decide +kernel
theorem s_Sorter_pocketOf : Cond.static y_Sorter_pocketOf ∈ nm_Ts ∧ Cond.initialized y_Sorter_pocketOf.cls ∈ nm_Ts ∧ Cond.code y_Sorter_pocketOf b_Sorter_pocketOf 4 (some .int) ∈ nm_Ts ∧ mz_cl1 y_Sorter_pocketOf 3 := ⟨nm_t2 184 rfl rfl, nm_t1 3 rfl rfl, nm_t2 185 rfl rfl, by decide +kernel⟩
def y_Office_zoneOf : MethodName := ⟨"CardOffice", "zoneOf", "(I)I"⟩
abbrev b_Office_zoneOf : ByteArray := prog_1_method_38_code
def r_Office_zoneOf (c s : Nat) : Room := { frames := 0, cells := c, slots := s, locals := 0 }
theorem d_Office_zoneOf_0 : decode b_Office_zoneOf 0 = .ok (.iload_n 0, 1) := by decide +kernel
theorem d_Office_zoneOf_1 : decode b_Office_zoneOf 1 = .ok (.bipush 83, 2) := by decide +kernel
theorem d_Office_zoneOf_3 : decode b_Office_zoneOf 3 = .ok (.if_icmp .lt 5, 3) := by decide +kernel
theorem d_Office_zoneOf_6 : decode b_Office_zoneOf 6 = .ok (.iconst 1, 1) := by decide +kernel
theorem d_Office_zoneOf_7 : decode b_Office_zoneOf 7 = .ok (.ireturn, 1) := by decide +kernel
theorem d_Office_zoneOf_8 : decode b_Office_zoneOf 8 = .ok (.iload_n 0, 1) := by decide +kernel
theorem d_Office_zoneOf_9 : decode b_Office_zoneOf 9 = .ok (.bipush 74, 2) := by decide +kernel
theorem d_Office_zoneOf_11 : decode b_Office_zoneOf 11 = .ok (.if_icmp .lt 5, 3) := by decide +kernel
theorem d_Office_zoneOf_14 : decode b_Office_zoneOf 14 = .ok (.iconst 2, 1) := by decide +kernel
theorem d_Office_zoneOf_15 : decode b_Office_zoneOf 15 = .ok (.ireturn, 1) := by decide +kernel
theorem d_Office_zoneOf_16 : decode b_Office_zoneOf 16 = .ok (.iload_n 0, 1) := by decide +kernel
theorem d_Office_zoneOf_17 : decode b_Office_zoneOf 17 = .ok (.bipush 65, 2) := by decide +kernel
theorem d_Office_zoneOf_19 : decode b_Office_zoneOf 19 = .ok (.if_icmp .lt 7, 3) := by decide +kernel
theorem d_Office_zoneOf_22 : decode b_Office_zoneOf 22 = .ok (.iconst 3, 1) := by decide +kernel
theorem d_Office_zoneOf_23 : decode b_Office_zoneOf 23 = .ok (.goto 4, 3) := by decide +kernel
theorem d_Office_zoneOf_26 : decode b_Office_zoneOf 26 = .ok (.iconst 0, 1) := by decide +kernel
theorem d_Office_zoneOf_27 : decode b_Office_zoneOf 27 = .ok (.ireturn, 1) := by decide +kernel
theorem s_Office_zoneOf : Cond.static y_Office_zoneOf ∈ nm_Ts ∧ Cond.initialized y_Office_zoneOf.cls ∈ nm_Ts ∧ Cond.code y_Office_zoneOf b_Office_zoneOf 1 (some .int) ∈ nm_Ts ∧ mz_cl1 y_Office_zoneOf 1 := ⟨nm_t2 187 rfl rfl, nm_t1 1 rfl rfl, nm_t2 188 rfl rfl, by decide +kernel⟩
def y_Office_digitPocketOf : MethodName := ⟨"CardOffice", "digitPocketOf", "(I)I"⟩
abbrev b_Office_digitPocketOf : ByteArray := prog_1_method_39_code
def r_Office_digitPocketOf (c s : Nat) : Room := { frames := 1, cells := c, slots := s, locals := 20 }
theorem d_Office_digitPocketOf_0 : decode b_Office_digitPocketOf 0 = .ok (.iload_n 0, 1) := by decide +kernel
theorem d_Office_digitPocketOf_1 : decode b_Office_digitPocketOf 1 = .ok (.invokestatic 247, 3) := by decide +kernel
theorem d_Office_digitPocketOf_4 : decode b_Office_digitPocketOf 4 = .ok (.iconst 1, 1) := by decide +kernel
theorem d_Office_digitPocketOf_5 : decode b_Office_digitPocketOf 5 = .ok (.iadd, 1) := by decide +kernel
theorem d_Office_digitPocketOf_6 : decode b_Office_digitPocketOf 6 = .ok (.ireturn, 1) := by decide +kernel
theorem s_Office_digitPocketOf : Cond.static y_Office_digitPocketOf ∈ nm_Ts ∧ Cond.initialized y_Office_digitPocketOf.cls ∈ nm_Ts ∧ Cond.code y_Office_digitPocketOf b_Office_digitPocketOf 1 (some .int) ∈ nm_Ts ∧ mz_cl1 y_Office_digitPocketOf 1 := ⟨nm_t2 190 rfl rfl, nm_t1 1 rfl rfl, nm_t2 191 rfl rfl, by decide +kernel⟩
def y_Office_digitOf : MethodName := ⟨"CardOffice", "digitOf", "(I)I"⟩
abbrev b_Office_digitOf : ByteArray := prog_1_method_37_code
def r_Office_digitOf (c s : Nat) : Room := { frames := 0, cells := c, slots := s, locals := 0 }
theorem d_Office_digitOf_0 : decode b_Office_digitOf 0 = .ok (.iload_n 0, 1) := by decide +kernel
theorem d_Office_digitOf_1 : decode b_Office_digitOf 1 = .ok (.bipush 83, 2) := by decide +kernel
theorem d_Office_digitOf_3 : decode b_Office_digitOf 3 = .ok (.if_icmp .lt 10, 3) := by decide +kernel
theorem d_Office_digitOf_6 : decode b_Office_digitOf 6 = .ok (.iload_n 0, 1) := by decide +kernel
theorem d_Office_digitOf_7 : decode b_Office_digitOf 7 = .ok (.bipush 83, 2) := by decide +kernel
theorem d_Office_digitOf_9 : decode b_Office_digitOf 9 = .ok (.isub, 1) := by decide +kernel
theorem d_Office_digitOf_10 : decode b_Office_digitOf 10 = .ok (.iconst 2, 1) := by decide +kernel
theorem d_Office_digitOf_11 : decode b_Office_digitOf 11 = .ok (.iadd, 1) := by decide +kernel
theorem d_Office_digitOf_12 : decode b_Office_digitOf 12 = .ok (.ireturn, 1) := by decide +kernel
theorem d_Office_digitOf_13 : decode b_Office_digitOf 13 = .ok (.iload_n 0, 1) := by decide +kernel
theorem d_Office_digitOf_14 : decode b_Office_digitOf 14 = .ok (.bipush 74, 2) := by decide +kernel
theorem d_Office_digitOf_16 : decode b_Office_digitOf 16 = .ok (.if_icmp .lt 10, 3) := by decide +kernel
theorem d_Office_digitOf_19 : decode b_Office_digitOf 19 = .ok (.iload_n 0, 1) := by decide +kernel
theorem d_Office_digitOf_20 : decode b_Office_digitOf 20 = .ok (.bipush 74, 2) := by decide +kernel
theorem d_Office_digitOf_22 : decode b_Office_digitOf 22 = .ok (.isub, 1) := by decide +kernel
theorem d_Office_digitOf_23 : decode b_Office_digitOf 23 = .ok (.iconst 1, 1) := by decide +kernel
theorem d_Office_digitOf_24 : decode b_Office_digitOf 24 = .ok (.iadd, 1) := by decide +kernel
theorem d_Office_digitOf_25 : decode b_Office_digitOf 25 = .ok (.ireturn, 1) := by decide +kernel
theorem d_Office_digitOf_26 : decode b_Office_digitOf 26 = .ok (.iload_n 0, 1) := by decide +kernel
theorem d_Office_digitOf_27 : decode b_Office_digitOf 27 = .ok (.bipush 65, 2) := by decide +kernel
theorem d_Office_digitOf_29 : decode b_Office_digitOf 29 = .ok (.if_icmp .lt 10, 3) := by decide +kernel
theorem d_Office_digitOf_32 : decode b_Office_digitOf 32 = .ok (.iload_n 0, 1) := by decide +kernel
theorem d_Office_digitOf_33 : decode b_Office_digitOf 33 = .ok (.bipush 65, 2) := by decide +kernel
theorem d_Office_digitOf_35 : decode b_Office_digitOf 35 = .ok (.isub, 1) := by decide +kernel
theorem d_Office_digitOf_36 : decode b_Office_digitOf 36 = .ok (.iconst 1, 1) := by decide +kernel
theorem d_Office_digitOf_37 : decode b_Office_digitOf 37 = .ok (.iadd, 1) := by decide +kernel
theorem d_Office_digitOf_38 : decode b_Office_digitOf 38 = .ok (.ireturn, 1) := by decide +kernel
theorem d_Office_digitOf_39 : decode b_Office_digitOf 39 = .ok (.iload_n 0, 1) := by decide +kernel
theorem d_Office_digitOf_40 : decode b_Office_digitOf 40 = .ok (.bipush 32, 2) := by decide +kernel
theorem d_Office_digitOf_42 : decode b_Office_digitOf 42 = .ok (.if_icmp .ne 7, 3) := by decide +kernel
theorem d_Office_digitOf_45 : decode b_Office_digitOf 45 = .ok (.iconst (-1), 1) := by decide +kernel
theorem d_Office_digitOf_46 : decode b_Office_digitOf 46 = .ok (.goto 7, 3) := by decide +kernel
theorem d_Office_digitOf_49 : decode b_Office_digitOf 49 = .ok (.iload_n 0, 1) := by decide +kernel
theorem d_Office_digitOf_50 : decode b_Office_digitOf 50 = .ok (.bipush 48, 2) := by decide +kernel
theorem d_Office_digitOf_52 : decode b_Office_digitOf 52 = .ok (.isub, 1) := by decide +kernel
theorem d_Office_digitOf_53 : decode b_Office_digitOf 53 = .ok (.ireturn, 1) := by decide +kernel
theorem s_Office_digitOf : Cond.static y_Office_digitOf ∈ nm_Ts ∧ Cond.initialized y_Office_digitOf.cls ∈ nm_Ts ∧ Cond.code y_Office_digitOf b_Office_digitOf 1 (some .int) ∈ nm_Ts ∧ mz_cl1 y_Office_digitOf 1 := ⟨nm_t2 193 rfl rfl, nm_t1 1 rfl rfl, nm_t2 194 rfl rfl, by decide +kernel⟩
def y_Sorter_stackPockets : MethodName := ⟨"CardOffice$Sorter", "stackPockets", "()I"⟩
abbrev b_Sorter_stackPockets : ByteArray := prog_11_method_5_code
def r_Sorter_stackPockets (c s : Nat) : Room := { frames := 0, cells := c, slots := s, locals := 0 }
theorem d_Sorter_stackPockets_0 : decode b_Sorter_stackPockets 0 = .ok (.iconst 0, 1) := by decide +kernel
theorem d_Sorter_stackPockets_1 : decode b_Sorter_stackPockets 1 = .ok (.istore_n 1, 1) := by decide +kernel
theorem d_Sorter_stackPockets_2 : decode b_Sorter_stackPockets 2 = .ok (.iconst 0, 1) := by decide +kernel
theorem d_Sorter_stackPockets_3 : decode b_Sorter_stackPockets 3 = .ok (.istore_n 2, 1) := by decide +kernel
theorem d_Sorter_stackPockets_4 : decode b_Sorter_stackPockets 4 = .ok (.iconst 0, 1) := by decide +kernel
theorem d_Sorter_stackPockets_5 : decode b_Sorter_stackPockets 5 = .ok (.istore_n 3, 1) := by decide +kernel
theorem d_Sorter_stackPockets_6 : decode b_Sorter_stackPockets 6 = .ok (.iload_n 3, 1) := by decide +kernel
theorem d_Sorter_stackPockets_7 : decode b_Sorter_stackPockets 7 = .ok (.bipush 11, 2) := by decide +kernel
theorem d_Sorter_stackPockets_9 : decode b_Sorter_stackPockets 9 = .ok (.if_icmp .ge 37, 3) := by decide +kernel
theorem d_Sorter_stackPockets_12 : decode b_Sorter_stackPockets 12 = .ok (.aload_n 0, 1) := by decide +kernel
theorem d_Sorter_stackPockets_13 : decode b_Sorter_stackPockets 13 = .ok (.getfield 9, 3) := by decide +kernel
theorem d_Sorter_stackPockets_16 : decode b_Sorter_stackPockets 16 = .ok (.iload_n 3, 1) := by decide +kernel
theorem d_Sorter_stackPockets_17 : decode b_Sorter_stackPockets 17 = .ok (.iaload, 1) := by decide +kernel
theorem d_Sorter_stackPockets_18 : decode b_Sorter_stackPockets 18 = .ok (.istore 4, 2) := by decide +kernel
theorem d_Sorter_stackPockets_20 : decode b_Sorter_stackPockets 20 = .ok (.iload 4, 2) := by decide +kernel
theorem d_Sorter_stackPockets_22 : decode b_Sorter_stackPockets 22 = .ok (.ifCond .le 6, 3) := by decide +kernel
theorem d_Sorter_stackPockets_25 : decode b_Sorter_stackPockets 25 = .ok (.iinc 1 1, 3) := by decide +kernel
theorem d_Sorter_stackPockets_28 : decode b_Sorter_stackPockets 28 = .ok (.aload_n 0, 1) := by decide +kernel
theorem d_Sorter_stackPockets_29 : decode b_Sorter_stackPockets 29 = .ok (.getfield 9, 3) := by decide +kernel
theorem d_Sorter_stackPockets_32 : decode b_Sorter_stackPockets 32 = .ok (.iload_n 3, 1) := by decide +kernel
theorem d_Sorter_stackPockets_33 : decode b_Sorter_stackPockets 33 = .ok (.iload_n 2, 1) := by decide +kernel
theorem d_Sorter_stackPockets_34 : decode b_Sorter_stackPockets 34 = .ok (.iastore, 1) := by decide +kernel
theorem d_Sorter_stackPockets_35 : decode b_Sorter_stackPockets 35 = .ok (.iload_n 2, 1) := by decide +kernel
theorem d_Sorter_stackPockets_36 : decode b_Sorter_stackPockets 36 = .ok (.iload 4, 2) := by decide +kernel
theorem d_Sorter_stackPockets_38 : decode b_Sorter_stackPockets 38 = .ok (.iadd, 1) := by decide +kernel
theorem d_Sorter_stackPockets_39 : decode b_Sorter_stackPockets 39 = .ok (.istore_n 2, 1) := by decide +kernel
theorem d_Sorter_stackPockets_40 : decode b_Sorter_stackPockets 40 = .ok (.iinc 3 1, 3) := by decide +kernel
theorem d_Sorter_stackPockets_43 : decode b_Sorter_stackPockets 43 = .ok (.goto (-37), 3) := by decide +kernel
theorem d_Sorter_stackPockets_46 : decode b_Sorter_stackPockets 46 = .ok (.iload_n 1, 1) := by decide +kernel
theorem d_Sorter_stackPockets_47 : decode b_Sorter_stackPockets 47 = .ok (.ireturn, 1) := by decide +kernel
theorem v_Sorter_stackPockets : Cond.instanceMethod y_Sorter_stackPockets ∈ nm_Ts ∧ Cond.selects y_Sorter_stackPockets.cls y_Sorter_stackPockets y_Sorter_stackPockets ∈ nm_Ts ∧ Cond.initialized y_Sorter_stackPockets.cls ∈ nm_Ts ∧ Cond.code y_Sorter_stackPockets b_Sorter_stackPockets 5 (some .int) ∈ nm_Ts ∧ mz_cl1 y_Sorter_stackPockets 0 := ⟨nm_t2 197 rfl rfl, nm_s 5 rfl rfl, nm_t1 3 rfl rfl, nm_t2 198 rfl rfl, by decide +kernel⟩
def y_Office_sort : MethodName := ⟨"CardOffice", "sort", "(III)I"⟩
abbrev b_Office_sort : ByteArray := prog_1_method_7_code
def r_Office_sort (c s : Nat) : Room := { frames := 7, cells := c, slots := s, locals := 138 }
theorem d_Office_sort_0 : decode b_Office_sort 0 = .ok (.iload_n 1, 1) := by decide +kernel
theorem d_Office_sort_1 : decode b_Office_sort 1 = .ok (.invokestatic 62, 3) := by decide +kernel
theorem d_Office_sort_4 : decode b_Office_sort 4 = .ok (.ifCond .eq 11, 3) := by decide +kernel
theorem d_Office_sort_7 : decode b_Office_sort 7 = .ok (.iload_n 2, 1) := by decide +kernel
theorem d_Office_sort_8 : decode b_Office_sort 8 = .ok (.iload_n 3, 1) := by decide +kernel
theorem d_Office_sort_9 : decode b_Office_sort 9 = .ok (.invokestatic 120, 3) := by decide +kernel
theorem d_Office_sort_12 : decode b_Office_sort 12 = .ok (.ifCond .ne 13, 3) := by decide +kernel
theorem d_Office_sort_15 : decode b_Office_sort 15 = .ok (.new 109, 3) := by decide +kernel
theorem d_Office_sort_18 : decode b_Office_sort 18 = .ok (.dup, 1) := by decide +kernel
theorem d_Office_sort_19 : decode b_Office_sort 19 = .ok (.ldc 123, 2) := by decide +kernel
theorem d_Office_sort_21 : decode b_Office_sort 21 = .ok (.invokespecial 113, 3) := by decide +kernel
theorem d_Office_sort_24 : decode b_Office_sort 24 = .ok (.athrow, 1) := by decide +kernel
theorem d_Office_sort_25 : decode b_Office_sort 25 = .ok (.aload_n 0, 1) := by decide +kernel
theorem d_Office_sort_26 : decode b_Office_sort 26 = .ok (.getfield 35, 3) := by decide +kernel
theorem d_Office_sort_29 : decode b_Office_sort 29 = .ok (.aload_n 0, 1) := by decide +kernel
theorem d_Office_sort_30 : decode b_Office_sort 30 = .ok (.getfield 11, 3) := by decide +kernel
theorem d_Office_sort_33 : decode b_Office_sort 33 = .ok (.iload_n 1, 1) := by decide +kernel
theorem d_Office_sort_34 : decode b_Office_sort 34 = .ok (.aaload, 1) := by decide +kernel
theorem d_Office_sort_35 : decode b_Office_sort 35 = .ok (.iload_n 2, 1) := by decide +kernel
theorem d_Office_sort_36 : decode b_Office_sort 36 = .ok (.iload_n 3, 1) := by decide +kernel
theorem d_Office_sort_37 : decode b_Office_sort 37 = .ok (.invokevirtual 125, 3) := by decide +kernel
theorem d_Office_sort_40 : decode b_Office_sort 40 = .ok (.ireturn, 1) := by decide +kernel
theorem d_Office_sort : decode b_Office_sort 0 = .ok (.iload_n 1, 1) ∧ decode b_Office_sort 1 = .ok (.invokestatic 62, 3) ∧ decode b_Office_sort 4 = .ok (.ifCond .eq 11, 3) ∧ decode b_Office_sort 7 = .ok (.iload_n 2, 1) ∧ decode b_Office_sort 8 = .ok (.iload_n 3, 1) ∧ decode b_Office_sort 9 = .ok (.invokestatic 120, 3) ∧ decode b_Office_sort 12 = .ok (.ifCond .ne 13, 3) ∧ decode b_Office_sort 15 = .ok (.new 109, 3) ∧ decode b_Office_sort 18 = .ok (.dup, 1) ∧ decode b_Office_sort 19 = .ok (.ldc 123, 2) ∧ decode b_Office_sort 21 = .ok (.invokespecial 113, 3) ∧ decode b_Office_sort 24 = .ok (.athrow, 1) ∧ decode b_Office_sort 25 = .ok (.aload_n 0, 1) ∧ decode b_Office_sort 26 = .ok (.getfield 35, 3) ∧ decode b_Office_sort 29 = .ok (.aload_n 0, 1) ∧ decode b_Office_sort 30 = .ok (.getfield 11, 3) ∧ decode b_Office_sort 33 = .ok (.iload_n 1, 1) ∧ decode b_Office_sort 34 = .ok (.aaload, 1) ∧ decode b_Office_sort 35 = .ok (.iload_n 2, 1) ∧ decode b_Office_sort 36 = .ok (.iload_n 3, 1) ∧ decode b_Office_sort 37 = .ok (.invokevirtual 125, 3) ∧ decode b_Office_sort 40 = .ok (.ireturn, 1) := ⟨d_Office_sort_0, d_Office_sort_1, d_Office_sort_4, d_Office_sort_7, d_Office_sort_8, d_Office_sort_9, d_Office_sort_12, d_Office_sort_15, d_Office_sort_18, d_Office_sort_19, d_Office_sort_21, d_Office_sort_24, d_Office_sort_25, d_Office_sort_26, d_Office_sort_29, d_Office_sort_30, d_Office_sort_33, d_Office_sort_34, d_Office_sort_35, d_Office_sort_36, d_Office_sort_37, d_Office_sort_40⟩
theorem v_Office_sort : Cond.instanceMethod y_Office_sort ∈ nm_Ts ∧ Cond.selects y_Office_sort.cls y_Office_sort y_Office_sort ∈ nm_Ts ∧ Cond.initialized y_Office_sort.cls ∈ nm_Ts ∧ Cond.code y_Office_sort b_Office_sort 4 (some .int) ∈ nm_Ts ∧ mz_cl1 y_Office_sort 3 := ⟨nm_t2 203 rfl rfl, nm_t2 204 rfl rfl, nm_t1 1 rfl rfl, nm_t2 205 rfl rfl, by decide +kernel⟩
def y_Office_isField : MethodName := ⟨"CardOffice", "isField", "(II)Z"⟩
abbrev b_Office_isField : ByteArray := prog_1_method_26_code
def r_Office_isField (c s : Nat) : Room := { frames := 0, cells := c, slots := s, locals := 0 }
theorem d_Office_isField_0 : decode b_Office_isField 0 = .ok (.iload_n 0, 1) := by decide +kernel
theorem d_Office_isField_1 : decode b_Office_isField 1 = .ok (.ifCond .lt 18, 3) := by decide +kernel
theorem d_Office_isField_4 : decode b_Office_isField 4 = .ok (.iload_n 0, 1) := by decide +kernel
theorem d_Office_isField_5 : decode b_Office_isField 5 = .ok (.iload_n 1, 1) := by decide +kernel
theorem d_Office_isField_6 : decode b_Office_isField 6 = .ok (.if_icmp .gt 13, 3) := by decide +kernel
theorem d_Office_isField_9 : decode b_Office_isField 9 = .ok (.iload_n 1, 1) := by decide +kernel
theorem d_Office_isField_10 : decode b_Office_isField 10 = .ok (.bipush 16, 2) := by decide +kernel
theorem d_Office_isField_12 : decode b_Office_isField 12 = .ok (.if_icmp .ge 7, 3) := by decide +kernel
theorem d_Office_isField_15 : decode b_Office_isField 15 = .ok (.iconst 1, 1) := by decide +kernel
theorem d_Office_isField_16 : decode b_Office_isField 16 = .ok (.goto 4, 3) := by decide +kernel
theorem d_Office_isField_19 : decode b_Office_isField 19 = .ok (.iconst 0, 1) := by decide +kernel
theorem d_Office_isField_20 : decode b_Office_isField 20 = .ok (.ireturn, 1) := by decide +kernel
theorem s_Office_isField : Cond.static y_Office_isField ∈ nm_Ts ∧ Cond.initialized y_Office_isField.cls ∈ nm_Ts ∧ Cond.code y_Office_isField b_Office_isField 2 (some .boolean) ∈ nm_Ts ∧ mz_cl1 y_Office_isField 2 := ⟨nm_t2 207 rfl rfl, nm_t1 1 rfl rfl, nm_t2 208 rfl rfl, by decide +kernel⟩
def y_Sorter_sortOn : MethodName := ⟨"CardOffice$Sorter", "sortOn", "(LCardOffice$Deck;II)I"⟩
abbrev b_Sorter_sortOn : ByteArray := prog_11_method_3_code
def r_Sorter_sortOn (c s : Nat) : Room := { frames := 5, cells := c, slots := s, locals := 113 }
theorem d_Sorter_sortOn_0 : decode b_Sorter_sortOn 0 = .ok (.aload_n 1, 1) := by decide +kernel
theorem d_Sorter_sortOn_1 : decode b_Sorter_sortOn 1 = .ok (.iload_n 2, 1) := by decide +kernel
theorem d_Sorter_sortOn_2 : decode b_Sorter_sortOn 2 = .ok (.iload_n 3, 1) := by decide +kernel
theorem d_Sorter_sortOn_3 : decode b_Sorter_sortOn 3 = .ok (.invokevirtual 49, 3) := by decide +kernel
theorem d_Sorter_sortOn_6 : decode b_Sorter_sortOn 6 = .ok (.ifCond .eq 5, 3) := by decide +kernel
theorem d_Sorter_sortOn_9 : decode b_Sorter_sortOn 9 = .ok (.iconst 0, 1) := by decide +kernel
theorem d_Sorter_sortOn_10 : decode b_Sorter_sortOn 10 = .ok (.ireturn, 1) := by decide +kernel
theorem d_Sorter_sortOn_11 : decode b_Sorter_sortOn 11 = .ok (.aload_n 0, 1) := by decide +kernel
theorem d_Sorter_sortOn_12 : decode b_Sorter_sortOn 12 = .ok (.getfield 21, 3) := by decide +kernel
theorem d_Sorter_sortOn_15 : decode b_Sorter_sortOn 15 = .ok (.istore 4, 2) := by decide +kernel
theorem d_Sorter_sortOn_17 : decode b_Sorter_sortOn 17 = .ok (.iload_n 3, 1) := by decide +kernel
theorem d_Sorter_sortOn_18 : decode b_Sorter_sortOn 18 = .ok (.istore 5, 2) := by decide +kernel
theorem d_Sorter_sortOn_20 : decode b_Sorter_sortOn 20 = .ok (.iload 5, 2) := by decide +kernel
theorem d_Sorter_sortOn_22 : decode b_Sorter_sortOn 22 = .ok (.iload_n 2, 1) := by decide +kernel
theorem d_Sorter_sortOn_23 : decode b_Sorter_sortOn 23 = .ok (.if_icmp .lt 36, 3) := by decide +kernel
theorem d_Sorter_sortOn_26 : decode b_Sorter_sortOn 26 = .ok (.aload_n 0, 1) := by decide +kernel
theorem d_Sorter_sortOn_27 : decode b_Sorter_sortOn 27 = .ok (.aload_n 1, 1) := by decide +kernel
theorem d_Sorter_sortOn_28 : decode b_Sorter_sortOn 28 = .ok (.iload 5, 2) := by decide +kernel
theorem d_Sorter_sortOn_30 : decode b_Sorter_sortOn 30 = .ok (.iconst 0, 1) := by decide +kernel
theorem d_Sorter_sortOn_31 : decode b_Sorter_sortOn 31 = .ok (.invokevirtual 53, 3) := by decide +kernel
theorem d_Sorter_sortOn_34 : decode b_Sorter_sortOn 34 = .ok (.pop, 1) := by decide +kernel
theorem d_Sorter_sortOn_35 : decode b_Sorter_sortOn 35 = .ok (.aload_n 1, 1) := by decide +kernel
theorem d_Sorter_sortOn_36 : decode b_Sorter_sortOn 36 = .ok (.iload 5, 2) := by decide +kernel
theorem d_Sorter_sortOn_38 : decode b_Sorter_sortOn 38 = .ok (.invokevirtual 57, 3) := by decide +kernel
theorem d_Sorter_sortOn_41 : decode b_Sorter_sortOn 41 = .ok (.ifCond .eq 12, 3) := by decide +kernel
theorem d_Sorter_sortOn_44 : decode b_Sorter_sortOn 44 = .ok (.aload_n 0, 1) := by decide +kernel
theorem d_Sorter_sortOn_45 : decode b_Sorter_sortOn 45 = .ok (.aload_n 1, 1) := by decide +kernel
theorem d_Sorter_sortOn_46 : decode b_Sorter_sortOn 46 = .ok (.iload 5, 2) := by decide +kernel
theorem d_Sorter_sortOn_48 : decode b_Sorter_sortOn 48 = .ok (.iconst 1, 1) := by decide +kernel
theorem d_Sorter_sortOn_49 : decode b_Sorter_sortOn 49 = .ok (.invokevirtual 53, 3) := by decide +kernel
theorem d_Sorter_sortOn_52 : decode b_Sorter_sortOn 52 = .ok (.pop, 1) := by decide +kernel
theorem d_Sorter_sortOn_53 : decode b_Sorter_sortOn 53 = .ok (.iinc 5 (-1), 3) := by decide +kernel
theorem d_Sorter_sortOn_56 : decode b_Sorter_sortOn 56 = .ok (.goto (-36), 3) := by decide +kernel
theorem d_Sorter_sortOn_59 : decode b_Sorter_sortOn 59 = .ok (.aload_n 0, 1) := by decide +kernel
theorem d_Sorter_sortOn_60 : decode b_Sorter_sortOn 60 = .ok (.getfield 21, 3) := by decide +kernel
theorem d_Sorter_sortOn_63 : decode b_Sorter_sortOn 63 = .ok (.iload 4, 2) := by decide +kernel
theorem d_Sorter_sortOn_65 : decode b_Sorter_sortOn 65 = .ok (.isub, 1) := by decide +kernel
theorem d_Sorter_sortOn_66 : decode b_Sorter_sortOn 66 = .ok (.ireturn, 1) := by decide +kernel
theorem v_Sorter_sortOn : Cond.instanceMethod y_Sorter_sortOn ∈ nm_Ts ∧ Cond.selects y_Sorter_sortOn.cls y_Sorter_sortOn y_Sorter_sortOn ∈ nm_Ts ∧ Cond.initialized y_Sorter_sortOn.cls ∈ nm_Ts ∧ Cond.code y_Sorter_sortOn b_Sorter_sortOn 6 (some .int) ∈ nm_Ts ∧ mz_cl1 y_Sorter_sortOn 3 := ⟨nm_t2 211 rfl rfl, nm_t2 212 rfl rfl, nm_t1 3 rfl rfl, nm_t2 213 rfl rfl, by decide +kernel⟩
def y_Deck_isSorted : MethodName := ⟨"CardOffice$Deck", "isSorted", "(II)Z"⟩
abbrev b_Deck_isSorted : ByteArray := prog_5_method_6_code
def r_Deck_isSorted (c s : Nat) : Room := { frames := 4, cells := c, slots := s, locals := 84 }
theorem d_Deck_isSorted_0 : decode b_Deck_isSorted 0 = .ok (.iconst 1, 1) := by decide +kernel
theorem d_Deck_isSorted_1 : decode b_Deck_isSorted 1 = .ok (.istore_n 3, 1) := by decide +kernel
theorem d_Deck_isSorted_2 : decode b_Deck_isSorted 2 = .ok (.iload_n 3, 1) := by decide +kernel
theorem d_Deck_isSorted_3 : decode b_Deck_isSorted 3 = .ok (.aload_n 0, 1) := by decide +kernel
theorem d_Deck_isSorted_4 : decode b_Deck_isSorted 4 = .ok (.getfield 17, 3) := by decide +kernel
theorem d_Deck_isSorted_7 : decode b_Deck_isSorted 7 = .ok (.if_icmp .ge 33, 3) := by decide +kernel
theorem d_Deck_isSorted_10 : decode b_Deck_isSorted 10 = .ok (.aload_n 0, 1) := by decide +kernel
theorem d_Deck_isSorted_11 : decode b_Deck_isSorted 11 = .ok (.getfield 11, 3) := by decide +kernel
theorem d_Deck_isSorted_14 : decode b_Deck_isSorted 14 = .ok (.iload_n 3, 1) := by decide +kernel
theorem d_Deck_isSorted_15 : decode b_Deck_isSorted 15 = .ok (.aaload, 1) := by decide +kernel
theorem d_Deck_isSorted_16 : decode b_Deck_isSorted 16 = .ok (.aload_n 0, 1) := by decide +kernel
theorem d_Deck_isSorted_17 : decode b_Deck_isSorted 17 = .ok (.getfield 11, 3) := by decide +kernel
theorem d_Deck_isSorted_20 : decode b_Deck_isSorted 20 = .ok (.iload_n 3, 1) := by decide +kernel
theorem d_Deck_isSorted_21 : decode b_Deck_isSorted 21 = .ok (.iconst 1, 1) := by decide +kernel
theorem d_Deck_isSorted_22 : decode b_Deck_isSorted 22 = .ok (.isub, 1) := by decide +kernel
theorem d_Deck_isSorted_23 : decode b_Deck_isSorted 23 = .ok (.aaload, 1) := by decide +kernel
theorem d_Deck_isSorted_24 : decode b_Deck_isSorted 24 = .ok (.iload_n 1, 1) := by decide +kernel
theorem d_Deck_isSorted_25 : decode b_Deck_isSorted 25 = .ok (.iload_n 2, 1) := by decide +kernel
theorem d_Deck_isSorted_26 : decode b_Deck_isSorted 26 = .ok (.invokevirtual 31, 3) := by decide +kernel
theorem d_Deck_isSorted_29 : decode b_Deck_isSorted 29 = .ok (.ifCond .ge 5, 3) := by decide +kernel
theorem d_Deck_isSorted_32 : decode b_Deck_isSorted 32 = .ok (.iconst 0, 1) := by decide +kernel
theorem d_Deck_isSorted_33 : decode b_Deck_isSorted 33 = .ok (.ireturn, 1) := by decide +kernel
theorem d_Deck_isSorted_34 : decode b_Deck_isSorted 34 = .ok (.iinc 3 1, 3) := by decide +kernel
theorem d_Deck_isSorted_37 : decode b_Deck_isSorted 37 = .ok (.goto (-35), 3) := by decide +kernel
theorem d_Deck_isSorted_40 : decode b_Deck_isSorted 40 = .ok (.iconst 1, 1) := by decide +kernel
theorem d_Deck_isSorted_41 : decode b_Deck_isSorted 41 = .ok (.ireturn, 1) := by decide +kernel
theorem v_Deck_isSorted : Cond.instanceMethod y_Deck_isSorted ∈ nm_Ts ∧ Cond.selects y_Deck_isSorted.cls y_Deck_isSorted y_Deck_isSorted ∈ nm_Ts ∧ Cond.initialized y_Deck_isSorted.cls ∈ nm_Ts ∧ Cond.code y_Deck_isSorted b_Deck_isSorted 4 (some .boolean) ∈ nm_Ts ∧ mz_cl1 y_Deck_isSorted 2 := ⟨nm_t2 215 rfl rfl, nm_t2 216 rfl rfl, nm_t1 5 rfl rfl, nm_t2 217 rfl rfl, by decide +kernel⟩
def y_Card_compareOn : MethodName := ⟨"CardOffice$Card", "compareOn", "(LCardOffice$Card;II)I"⟩
abbrev b_Card_compareOn : ByteArray := prog_3_method_2_code
def r_Card_compareOn (c s : Nat) : Room := { frames := 3, cells := c, slots := s, locals := 60 }
theorem d_Card_compareOn_0 : decode b_Card_compareOn 0 = .ok (.iload_n 2, 1) := by decide +kernel
theorem d_Card_compareOn_1 : decode b_Card_compareOn 1 = .ok (.istore 4, 2) := by decide +kernel
theorem d_Card_compareOn_3 : decode b_Card_compareOn 3 = .ok (.iload 4, 2) := by decide +kernel
theorem d_Card_compareOn_5 : decode b_Card_compareOn 5 = .ok (.iload_n 3, 1) := by decide +kernel
theorem d_Card_compareOn_6 : decode b_Card_compareOn 6 = .ok (.if_icmp .gt 50, 3) := by decide +kernel
theorem d_Card_compareOn_9 : decode b_Card_compareOn 9 = .ok (.aload_n 0, 1) := by decide +kernel
theorem d_Card_compareOn_10 : decode b_Card_compareOn 10 = .ok (.getfield 9, 3) := by decide +kernel
theorem d_Card_compareOn_13 : decode b_Card_compareOn 13 = .ok (.iload 4, 2) := by decide +kernel
theorem d_Card_compareOn_15 : decode b_Card_compareOn 15 = .ok (.iaload, 1) := by decide +kernel
theorem d_Card_compareOn_16 : decode b_Card_compareOn 16 = .ok (.aload_n 1, 1) := by decide +kernel
theorem d_Card_compareOn_17 : decode b_Card_compareOn 17 = .ok (.getfield 9, 3) := by decide +kernel
theorem d_Card_compareOn_20 : decode b_Card_compareOn 20 = .ok (.iload 4, 2) := by decide +kernel
theorem d_Card_compareOn_22 : decode b_Card_compareOn 22 = .ok (.iaload, 1) := by decide +kernel
theorem d_Card_compareOn_23 : decode b_Card_compareOn 23 = .ok (.if_icmp .eq 27, 3) := by decide +kernel
theorem d_Card_compareOn_26 : decode b_Card_compareOn 26 = .ok (.aload_n 0, 1) := by decide +kernel
theorem d_Card_compareOn_27 : decode b_Card_compareOn 27 = .ok (.getfield 9, 3) := by decide +kernel
theorem d_Card_compareOn_30 : decode b_Card_compareOn 30 = .ok (.iload 4, 2) := by decide +kernel
theorem d_Card_compareOn_32 : decode b_Card_compareOn 32 = .ok (.iaload, 1) := by decide +kernel
theorem d_Card_compareOn_33 : decode b_Card_compareOn 33 = .ok (.invokestatic 15, 3) := by decide +kernel
theorem d_Card_compareOn_36 : decode b_Card_compareOn 36 = .ok (.aload_n 1, 1) := by decide +kernel
theorem d_Card_compareOn_37 : decode b_Card_compareOn 37 = .ok (.getfield 9, 3) := by decide +kernel
theorem d_Card_compareOn_40 : decode b_Card_compareOn 40 = .ok (.iload 4, 2) := by decide +kernel
theorem d_Card_compareOn_42 : decode b_Card_compareOn 42 = .ok (.iaload, 1) := by decide +kernel
theorem d_Card_compareOn_43 : decode b_Card_compareOn 43 = .ok (.invokestatic 15, 3) := by decide +kernel
theorem d_Card_compareOn_46 : decode b_Card_compareOn 46 = .ok (.invokestatic 19, 3) := by decide +kernel
theorem d_Card_compareOn_49 : decode b_Card_compareOn 49 = .ok (.ireturn, 1) := by decide +kernel
theorem d_Card_compareOn_50 : decode b_Card_compareOn 50 = .ok (.iinc 4 1, 3) := by decide +kernel
theorem d_Card_compareOn_53 : decode b_Card_compareOn 53 = .ok (.goto (-50), 3) := by decide +kernel
theorem d_Card_compareOn_56 : decode b_Card_compareOn 56 = .ok (.iconst 0, 1) := by decide +kernel
theorem d_Card_compareOn_57 : decode b_Card_compareOn 57 = .ok (.ireturn, 1) := by decide +kernel
theorem v_Card_compareOn : Cond.instanceMethod y_Card_compareOn ∈ nm_Ts ∧ Cond.selects y_Card_compareOn.cls y_Card_compareOn y_Card_compareOn ∈ nm_Ts ∧ Cond.initialized y_Card_compareOn.cls ∈ nm_Ts ∧ Cond.code y_Card_compareOn b_Card_compareOn 5 (some .int) ∈ nm_Ts ∧ mz_cl1 y_Card_compareOn 3 := ⟨nm_t2 219 rfl rfl, nm_t2 220 rfl rfl, nm_t1 13 rfl rfl, nm_t2 221 rfl rfl, by decide +kernel⟩
def y_Office_rankOf : MethodName := ⟨"CardOffice", "rankOf", "(I)I"⟩
abbrev b_Office_rankOf : ByteArray := prog_1_method_40_code
def r_Office_rankOf (c s : Nat) : Room := { frames := 2, cells := c, slots := s, locals := 40 }
theorem d_Office_rankOf_0 : decode b_Office_rankOf 0 = .ok (.iload_n 0, 1) := by decide +kernel
theorem d_Office_rankOf_1 : decode b_Office_rankOf 1 = .ok (.invokestatic 250, 3) := by decide +kernel
theorem d_Office_rankOf_4 : decode b_Office_rankOf 4 = .ok (.bipush 11, 2) := by decide +kernel
theorem d_Office_rankOf_6 : decode b_Office_rankOf 6 = .ok (.imul, 1) := by decide +kernel
theorem d_Office_rankOf_7 : decode b_Office_rankOf 7 = .ok (.iload_n 0, 1) := by decide +kernel
theorem d_Office_rankOf_8 : decode b_Office_rankOf 8 = .ok (.invokestatic 253, 3) := by decide +kernel
theorem d_Office_rankOf_11 : decode b_Office_rankOf 11 = .ok (.iadd, 1) := by decide +kernel
theorem d_Office_rankOf_12 : decode b_Office_rankOf 12 = .ok (.ireturn, 1) := by decide +kernel
theorem s_Office_rankOf : Cond.static y_Office_rankOf ∈ nm_Ts ∧ Cond.initialized y_Office_rankOf.cls ∈ nm_Ts ∧ Cond.code y_Office_rankOf b_Office_rankOf 1 (some .int) ∈ nm_Ts ∧ mz_cl1 y_Office_rankOf 1 := ⟨nm_t2 223 rfl rfl, nm_t1 1 rfl rfl, nm_t2 224 rfl rfl, by decide +kernel⟩
def y_Integer_compare : MethodName := ⟨"java/lang/Integer", "compare", "(II)I"⟩
abbrev b_Integer_compare : ByteArray := prog_19_method_40_code
def r_Integer_compare (c s : Nat) : Room := { frames := 0, cells := c, slots := s, locals := 0 }
theorem d_Integer_compare_0 : decode b_Integer_compare 0 = .ok (.iload_n 0, 1) := by decide +kernel
theorem d_Integer_compare_1 : decode b_Integer_compare 1 = .ok (.iload_n 1, 1) := by decide +kernel
theorem d_Integer_compare_2 : decode b_Integer_compare 2 = .ok (.if_icmp .ge 7, 3) := by decide +kernel
theorem d_Integer_compare_5 : decode b_Integer_compare 5 = .ok (.iconst (-1), 1) := by decide +kernel
theorem d_Integer_compare_6 : decode b_Integer_compare 6 = .ok (.goto 13, 3) := by decide +kernel
theorem d_Integer_compare_9 : decode b_Integer_compare 9 = .ok (.iload_n 0, 1) := by decide +kernel
theorem d_Integer_compare_10 : decode b_Integer_compare 10 = .ok (.iload_n 1, 1) := by decide +kernel
theorem d_Integer_compare_11 : decode b_Integer_compare 11 = .ok (.if_icmp .ne 7, 3) := by decide +kernel
theorem d_Integer_compare_14 : decode b_Integer_compare 14 = .ok (.iconst 0, 1) := by decide +kernel
theorem d_Integer_compare_15 : decode b_Integer_compare 15 = .ok (.goto 4, 3) := by decide +kernel
theorem d_Integer_compare_18 : decode b_Integer_compare 18 = .ok (.iconst 1, 1) := by decide +kernel
theorem d_Integer_compare_19 : decode b_Integer_compare 19 = .ok (.ireturn, 1) := by decide +kernel
theorem s_Integer_compare : Cond.static y_Integer_compare ∈ nm_Ts ∧ Cond.initialized y_Integer_compare.cls ∈ nm_Ts ∧ Cond.code y_Integer_compare b_Integer_compare 2 (some .int) ∈ nm_Ts ∧ mz_cl1 y_Integer_compare 2 := ⟨nm_t2 228 rfl rfl, nm_t1 18 rfl rfl, nm_t2 229 rfl rfl, by decide +kernel⟩
def y_Deck_hasZoneIn : MethodName := ⟨"CardOffice$Deck", "hasZoneIn", "(I)Z"⟩
abbrev b_Deck_hasZoneIn : ByteArray := prog_5_method_7_code
def r_Deck_hasZoneIn (c s : Nat) : Room := { frames := 1, cells := c, slots := s, locals := 20 }
theorem d_Deck_hasZoneIn_0 : decode b_Deck_hasZoneIn 0 = .ok (.iconst 0, 1) := by decide +kernel
theorem d_Deck_hasZoneIn_1 : decode b_Deck_hasZoneIn 1 = .ok (.istore_n 2, 1) := by decide +kernel
theorem d_Deck_hasZoneIn_2 : decode b_Deck_hasZoneIn 2 = .ok (.iload_n 2, 1) := by decide +kernel
theorem d_Deck_hasZoneIn_3 : decode b_Deck_hasZoneIn 3 = .ok (.aload_n 0, 1) := by decide +kernel
theorem d_Deck_hasZoneIn_4 : decode b_Deck_hasZoneIn 4 = .ok (.getfield 17, 3) := by decide +kernel
theorem d_Deck_hasZoneIn_7 : decode b_Deck_hasZoneIn 7 = .ok (.if_icmp .ge 28, 3) := by decide +kernel
theorem d_Deck_hasZoneIn_10 : decode b_Deck_hasZoneIn 10 = .ok (.aload_n 0, 1) := by decide +kernel
theorem d_Deck_hasZoneIn_11 : decode b_Deck_hasZoneIn 11 = .ok (.getfield 11, 3) := by decide +kernel
theorem d_Deck_hasZoneIn_14 : decode b_Deck_hasZoneIn 14 = .ok (.iload_n 2, 1) := by decide +kernel
theorem d_Deck_hasZoneIn_15 : decode b_Deck_hasZoneIn 15 = .ok (.aaload, 1) := by decide +kernel
theorem d_Deck_hasZoneIn_16 : decode b_Deck_hasZoneIn 16 = .ok (.getfield 35, 3) := by decide +kernel
theorem d_Deck_hasZoneIn_19 : decode b_Deck_hasZoneIn 19 = .ok (.iload_n 1, 1) := by decide +kernel
theorem d_Deck_hasZoneIn_20 : decode b_Deck_hasZoneIn 20 = .ok (.iaload, 1) := by decide +kernel
theorem d_Deck_hasZoneIn_21 : decode b_Deck_hasZoneIn 21 = .ok (.invokestatic 39, 3) := by decide +kernel
theorem d_Deck_hasZoneIn_24 : decode b_Deck_hasZoneIn 24 = .ok (.ifCond .le 5, 3) := by decide +kernel
theorem d_Deck_hasZoneIn_27 : decode b_Deck_hasZoneIn 27 = .ok (.iconst 1, 1) := by decide +kernel
theorem d_Deck_hasZoneIn_28 : decode b_Deck_hasZoneIn 28 = .ok (.ireturn, 1) := by decide +kernel
theorem d_Deck_hasZoneIn_29 : decode b_Deck_hasZoneIn 29 = .ok (.iinc 2 1, 3) := by decide +kernel
theorem d_Deck_hasZoneIn_32 : decode b_Deck_hasZoneIn 32 = .ok (.goto (-30), 3) := by decide +kernel
theorem d_Deck_hasZoneIn_35 : decode b_Deck_hasZoneIn 35 = .ok (.iconst 0, 1) := by decide +kernel
theorem d_Deck_hasZoneIn_36 : decode b_Deck_hasZoneIn 36 = .ok (.ireturn, 1) := by decide +kernel
theorem v_Deck_hasZoneIn : Cond.instanceMethod y_Deck_hasZoneIn ∈ nm_Ts ∧ Cond.selects y_Deck_hasZoneIn.cls y_Deck_hasZoneIn y_Deck_hasZoneIn ∈ nm_Ts ∧ Cond.initialized y_Deck_hasZoneIn.cls ∈ nm_Ts ∧ Cond.code y_Deck_hasZoneIn b_Deck_hasZoneIn 3 (some .boolean) ∈ nm_Ts ∧ mz_cl1 y_Deck_hasZoneIn 1 := ⟨nm_t2 232 rfl rfl, nm_t2 233 rfl rfl, nm_t1 5 rfl rfl, nm_t2 234 rfl rfl, by decide +kernel⟩
def y_Office_merge : MethodName := ⟨"CardOffice", "merge", "(IIII)I"⟩
abbrev b_Office_merge : ByteArray := prog_1_method_8_code
def r_Office_merge (c s : Nat) : Room := { frames := 7, cells := c, slots := s, locals := 137 }
theorem d_Office_merge_0 : decode b_Office_merge 0 = .ok (.iload_n 1, 1) := by decide +kernel
theorem d_Office_merge_1 : decode b_Office_merge 1 = .ok (.iload_n 2, 1) := by decide +kernel
theorem d_Office_merge_2 : decode b_Office_merge 2 = .ok (.invokestatic 129, 3) := by decide +kernel
theorem d_Office_merge_5 : decode b_Office_merge 5 = .ok (.ifCond .eq 12, 3) := by decide +kernel
theorem d_Office_merge_8 : decode b_Office_merge 8 = .ok (.iload_n 3, 1) := by decide +kernel
theorem d_Office_merge_9 : decode b_Office_merge 9 = .ok (.iload 4, 2) := by decide +kernel
theorem d_Office_merge_11 : decode b_Office_merge 11 = .ok (.invokestatic 120, 3) := by decide +kernel
theorem d_Office_merge_14 : decode b_Office_merge 14 = .ok (.ifCond .ne 13, 3) := by decide +kernel
theorem d_Office_merge_17 : decode b_Office_merge 17 = .ok (.new 109, 3) := by decide +kernel
theorem d_Office_merge_20 : decode b_Office_merge 20 = .ok (.dup, 1) := by decide +kernel
theorem d_Office_merge_21 : decode b_Office_merge 21 = .ok (.ldc 132, 2) := by decide +kernel
theorem d_Office_merge_23 : decode b_Office_merge 23 = .ok (.invokespecial 113, 3) := by decide +kernel
theorem d_Office_merge_26 : decode b_Office_merge 26 = .ok (.athrow, 1) := by decide +kernel
theorem d_Office_merge_27 : decode b_Office_merge 27 = .ok (.aload_n 0, 1) := by decide +kernel
theorem d_Office_merge_28 : decode b_Office_merge 28 = .ok (.getfield 11, 3) := by decide +kernel
theorem d_Office_merge_31 : decode b_Office_merge 31 = .ok (.iload_n 1, 1) := by decide +kernel
theorem d_Office_merge_32 : decode b_Office_merge 32 = .ok (.aaload, 1) := by decide +kernel
theorem d_Office_merge_33 : decode b_Office_merge 33 = .ok (.iload_n 3, 1) := by decide +kernel
theorem d_Office_merge_34 : decode b_Office_merge 34 = .ok (.iload 4, 2) := by decide +kernel
theorem d_Office_merge_36 : decode b_Office_merge 36 = .ok (.invokevirtual 134, 3) := by decide +kernel
theorem d_Office_merge_39 : decode b_Office_merge 39 = .ok (.ifCond .eq 18, 3) := by decide +kernel
theorem d_Office_merge_42 : decode b_Office_merge 42 = .ok (.aload_n 0, 1) := by decide +kernel
theorem d_Office_merge_43 : decode b_Office_merge 43 = .ok (.getfield 11, 3) := by decide +kernel
theorem d_Office_merge_46 : decode b_Office_merge 46 = .ok (.iload_n 2, 1) := by decide +kernel
theorem d_Office_merge_47 : decode b_Office_merge 47 = .ok (.aaload, 1) := by decide +kernel
theorem d_Office_merge_48 : decode b_Office_merge 48 = .ok (.iload_n 3, 1) := by decide +kernel
theorem d_Office_merge_49 : decode b_Office_merge 49 = .ok (.iload 4, 2) := by decide +kernel
theorem d_Office_merge_51 : decode b_Office_merge 51 = .ok (.invokevirtual 134, 3) := by decide +kernel
theorem d_Office_merge_54 : decode b_Office_merge 54 = .ok (.ifCond .ne 13, 3) := by decide +kernel
theorem d_Office_merge_57 : decode b_Office_merge 57 = .ok (.new 137, 3) := by decide +kernel
theorem d_Office_merge_60 : decode b_Office_merge 60 = .ok (.dup, 1) := by decide +kernel
theorem d_Office_merge_61 : decode b_Office_merge 61 = .ok (.ldc 139, 2) := by decide +kernel
theorem d_Office_merge_63 : decode b_Office_merge 63 = .ok (.invokespecial 141, 3) := by decide +kernel
theorem d_Office_merge_66 : decode b_Office_merge 66 = .ok (.athrow, 1) := by decide +kernel
theorem d_Office_merge_67 : decode b_Office_merge 67 = .ok (.aload_n 0, 1) := by decide +kernel
theorem d_Office_merge_68 : decode b_Office_merge 68 = .ok (.getfield 42, 3) := by decide +kernel
theorem d_Office_merge_71 : decode b_Office_merge 71 = .ok (.aload_n 0, 1) := by decide +kernel
theorem d_Office_merge_72 : decode b_Office_merge 72 = .ok (.getfield 11, 3) := by decide +kernel
theorem d_Office_merge_75 : decode b_Office_merge 75 = .ok (.iload_n 1, 1) := by decide +kernel
theorem d_Office_merge_76 : decode b_Office_merge 76 = .ok (.aaload, 1) := by decide +kernel
theorem d_Office_merge_77 : decode b_Office_merge 77 = .ok (.aload_n 0, 1) := by decide +kernel
theorem d_Office_merge_78 : decode b_Office_merge 78 = .ok (.getfield 11, 3) := by decide +kernel
theorem d_Office_merge_81 : decode b_Office_merge 81 = .ok (.iload_n 2, 1) := by decide +kernel
theorem d_Office_merge_82 : decode b_Office_merge 82 = .ok (.aaload, 1) := by decide +kernel
theorem d_Office_merge_83 : decode b_Office_merge 83 = .ok (.iload_n 3, 1) := by decide +kernel
theorem d_Office_merge_84 : decode b_Office_merge 84 = .ok (.iload 4, 2) := by decide +kernel
theorem d_Office_merge_86 : decode b_Office_merge 86 = .ok (.invokevirtual 142, 3) := by decide +kernel
theorem d_Office_merge_89 : decode b_Office_merge 89 = .ok (.ireturn, 1) := by decide +kernel
theorem d_Office_merge : decode b_Office_merge 0 = .ok (.iload_n 1, 1) ∧ decode b_Office_merge 1 = .ok (.iload_n 2, 1) ∧ decode b_Office_merge 2 = .ok (.invokestatic 129, 3) ∧ decode b_Office_merge 5 = .ok (.ifCond .eq 12, 3) ∧ decode b_Office_merge 8 = .ok (.iload_n 3, 1) ∧ decode b_Office_merge 9 = .ok (.iload 4, 2) ∧ decode b_Office_merge 11 = .ok (.invokestatic 120, 3) ∧ decode b_Office_merge 14 = .ok (.ifCond .ne 13, 3) ∧ decode b_Office_merge 17 = .ok (.new 109, 3) ∧ decode b_Office_merge 20 = .ok (.dup, 1) ∧ decode b_Office_merge 21 = .ok (.ldc 132, 2) ∧ decode b_Office_merge 23 = .ok (.invokespecial 113, 3) ∧ decode b_Office_merge 26 = .ok (.athrow, 1) ∧ decode b_Office_merge 27 = .ok (.aload_n 0, 1) ∧ decode b_Office_merge 28 = .ok (.getfield 11, 3) ∧ decode b_Office_merge 31 = .ok (.iload_n 1, 1) ∧ decode b_Office_merge 32 = .ok (.aaload, 1) ∧ decode b_Office_merge 33 = .ok (.iload_n 3, 1) ∧ decode b_Office_merge 34 = .ok (.iload 4, 2) ∧ decode b_Office_merge 36 = .ok (.invokevirtual 134, 3) ∧ decode b_Office_merge 39 = .ok (.ifCond .eq 18, 3) ∧ decode b_Office_merge 42 = .ok (.aload_n 0, 1) ∧ decode b_Office_merge 43 = .ok (.getfield 11, 3) ∧ decode b_Office_merge 46 = .ok (.iload_n 2, 1) ∧ decode b_Office_merge 47 = .ok (.aaload, 1) ∧ decode b_Office_merge 48 = .ok (.iload_n 3, 1) ∧ decode b_Office_merge 49 = .ok (.iload 4, 2) ∧ decode b_Office_merge 51 = .ok (.invokevirtual 134, 3) ∧ decode b_Office_merge 54 = .ok (.ifCond .ne 13, 3) ∧ decode b_Office_merge 57 = .ok (.new 137, 3) ∧ decode b_Office_merge 60 = .ok (.dup, 1) ∧ decode b_Office_merge 61 = .ok (.ldc 139, 2) ∧ decode b_Office_merge 63 = .ok (.invokespecial 141, 3) ∧ decode b_Office_merge 66 = .ok (.athrow, 1) ∧ decode b_Office_merge 67 = .ok (.aload_n 0, 1) ∧ decode b_Office_merge 68 = .ok (.getfield 42, 3) ∧ decode b_Office_merge 71 = .ok (.aload_n 0, 1) ∧ decode b_Office_merge 72 = .ok (.getfield 11, 3) ∧ decode b_Office_merge 75 = .ok (.iload_n 1, 1) ∧ decode b_Office_merge 76 = .ok (.aaload, 1) ∧ decode b_Office_merge 77 = .ok (.aload_n 0, 1) ∧ decode b_Office_merge 78 = .ok (.getfield 11, 3) ∧ decode b_Office_merge 81 = .ok (.iload_n 2, 1) ∧ decode b_Office_merge 82 = .ok (.aaload, 1) ∧ decode b_Office_merge 83 = .ok (.iload_n 3, 1) ∧ decode b_Office_merge 84 = .ok (.iload 4, 2) ∧ decode b_Office_merge 86 = .ok (.invokevirtual 142, 3) ∧ decode b_Office_merge 89 = .ok (.ireturn, 1) := ⟨d_Office_merge_0, d_Office_merge_1, d_Office_merge_2, d_Office_merge_5, d_Office_merge_8, d_Office_merge_9, d_Office_merge_11, d_Office_merge_14, d_Office_merge_17, d_Office_merge_20, d_Office_merge_21, d_Office_merge_23, d_Office_merge_26, d_Office_merge_27, d_Office_merge_28, d_Office_merge_31, d_Office_merge_32, d_Office_merge_33, d_Office_merge_34, d_Office_merge_36, d_Office_merge_39, d_Office_merge_42, d_Office_merge_43, d_Office_merge_46, d_Office_merge_47, d_Office_merge_48, d_Office_merge_49, d_Office_merge_51, d_Office_merge_54, d_Office_merge_57, d_Office_merge_60, d_Office_merge_61, d_Office_merge_63, d_Office_merge_66, d_Office_merge_67, d_Office_merge_68, d_Office_merge_71, d_Office_merge_72, d_Office_merge_75, d_Office_merge_76, d_Office_merge_77, d_Office_merge_78, d_Office_merge_81, d_Office_merge_82, d_Office_merge_83, d_Office_merge_84, d_Office_merge_86, d_Office_merge_89⟩
theorem v_Office_merge : Cond.instanceMethod y_Office_merge ∈ nm_Ts ∧ Cond.selects y_Office_merge.cls y_Office_merge y_Office_merge ∈ nm_Ts ∧ Cond.initialized y_Office_merge.cls ∈ nm_Ts ∧ Cond.code y_Office_merge b_Office_merge 5 (some .int) ∈ nm_Ts ∧ mz_cl1 y_Office_merge 4 := ⟨nm_t3 1 rfl rfl, nm_t3 2 rfl rfl, nm_t1 1 rfl rfl, nm_t3 3 rfl rfl, by decide +kernel⟩
def y_Collator_mergeOn : MethodName := ⟨"CardOffice$Collator", "mergeOn", "(LCardOffice$Deck;LCardOffice$Deck;II)I"⟩
abbrev b_Collator_mergeOn : ByteArray := prog_4_method_2_code
def r_Collator_mergeOn (c s : Nat) : Room := { frames := 5, cells := c, slots := s, locals := 109 }
theorem d_Collator_mergeOn_0 : decode b_Collator_mergeOn 0 = .ok (.aload_n 1, 1) := by decide +kernel
theorem d_Collator_mergeOn_1 : decode b_Collator_mergeOn 1 = .ok (.getfield 19, 3) := by decide +kernel
theorem d_Collator_mergeOn_4 : decode b_Collator_mergeOn 4 = .ok (.aload_n 2, 1) := by decide +kernel
theorem d_Collator_mergeOn_5 : decode b_Collator_mergeOn 5 = .ok (.getfield 19, 3) := by decide +kernel
theorem d_Collator_mergeOn_8 : decode b_Collator_mergeOn 8 = .ok (.iadd, 1) := by decide +kernel
theorem d_Collator_mergeOn_9 : decode b_Collator_mergeOn 9 = .ok (.istore 5, 2) := by decide +kernel
theorem d_Collator_mergeOn_11 : decode b_Collator_mergeOn 11 = .ok (.iconst 0, 1) := by decide +kernel
theorem d_Collator_mergeOn_12 : decode b_Collator_mergeOn 12 = .ok (.istore 6, 2) := by decide +kernel
theorem d_Collator_mergeOn_14 : decode b_Collator_mergeOn 14 = .ok (.iconst 0, 1) := by decide +kernel
theorem d_Collator_mergeOn_15 : decode b_Collator_mergeOn 15 = .ok (.istore 7, 2) := by decide +kernel
theorem d_Collator_mergeOn_17 : decode b_Collator_mergeOn 17 = .ok (.aload_n 0, 1) := by decide +kernel
theorem d_Collator_mergeOn_18 : decode b_Collator_mergeOn 18 = .ok (.dup, 1) := by decide +kernel
theorem d_Collator_mergeOn_19 : decode b_Collator_mergeOn 19 = .ok (.getfield 23, 3) := by decide +kernel
theorem d_Collator_mergeOn_22 : decode b_Collator_mergeOn 22 = .ok (.aload_n 2, 1) := by decide +kernel
theorem d_Collator_mergeOn_23 : decode b_Collator_mergeOn 23 = .ok (.getfield 19, 3) := by decide +kernel
theorem d_Collator_mergeOn_26 : decode b_Collator_mergeOn 26 = .ok (.iadd, 1) := by decide +kernel
theorem d_Collator_mergeOn_27 : decode b_Collator_mergeOn 27 = .ok (.putfield 23, 3) := by decide +kernel
theorem d_Collator_mergeOn_30 : decode b_Collator_mergeOn 30 = .ok (.iconst 0, 1) := by decide +kernel
theorem d_Collator_mergeOn_31 : decode b_Collator_mergeOn 31 = .ok (.istore 8, 2) := by decide +kernel
theorem d_Collator_mergeOn_33 : decode b_Collator_mergeOn 33 = .ok (.iload 8, 2) := by decide +kernel
theorem d_Collator_mergeOn_35 : decode b_Collator_mergeOn 35 = .ok (.iload 5, 2) := by decide +kernel
theorem d_Collator_mergeOn_37 : decode b_Collator_mergeOn 37 = .ok (.if_icmp .ge 59, 3) := by decide +kernel
theorem d_Collator_mergeOn_40 : decode b_Collator_mergeOn 40 = .ok (.aload_n 1, 1) := by decide +kernel
theorem d_Collator_mergeOn_41 : decode b_Collator_mergeOn 41 = .ok (.iload 6, 2) := by decide +kernel
theorem d_Collator_mergeOn_43 : decode b_Collator_mergeOn 43 = .ok (.aload_n 2, 1) := by decide +kernel
theorem d_Collator_mergeOn_44 : decode b_Collator_mergeOn 44 = .ok (.iload 7, 2) := by decide +kernel
theorem d_Collator_mergeOn_46 : decode b_Collator_mergeOn 46 = .ok (.iload_n 3, 1) := by decide +kernel
theorem d_Collator_mergeOn_47 : decode b_Collator_mergeOn 47 = .ok (.iload 4, 2) := by decide +kernel
theorem d_Collator_mergeOn_49 : decode b_Collator_mergeOn 49 = .ok (.invokestatic 26, 3) := by decide +kernel
theorem d_Collator_mergeOn_52 : decode b_Collator_mergeOn 52 = .ok (.ifCond .gt 22, 3) := by decide +kernel
theorem d_Collator_mergeOn_55 : decode b_Collator_mergeOn 55 = .ok (.aload_n 0, 1) := by decide +kernel
theorem d_Collator_mergeOn_56 : decode b_Collator_mergeOn 56 = .ok (.getfield 10, 3) := by decide +kernel
theorem d_Collator_mergeOn_59 : decode b_Collator_mergeOn 59 = .ok (.aload_n 1, 1) := by decide +kernel
theorem d_Collator_mergeOn_60 : decode b_Collator_mergeOn 60 = .ok (.iload 6, 2) := by decide +kernel
theorem d_Collator_mergeOn_62 : decode b_Collator_mergeOn 62 = .ok (.invokevirtual 30, 3) := by decide +kernel
theorem d_Collator_mergeOn_65 : decode b_Collator_mergeOn 65 = .ok (.invokevirtual 34, 3) := by decide +kernel
theorem d_Collator_mergeOn_68 : decode b_Collator_mergeOn 68 = .ok (.iinc 6 1, 3) := by decide +kernel
theorem d_Collator_mergeOn_71 : decode b_Collator_mergeOn 71 = .ok (.goto 19, 3) := by decide +kernel
theorem d_Collator_mergeOn_74 : decode b_Collator_mergeOn 74 = .ok (.aload_n 0, 1) := by decide +kernel
theorem d_Collator_mergeOn_75 : decode b_Collator_mergeOn 75 = .ok (.getfield 10, 3) := by decide +kernel
theorem d_Collator_mergeOn_78 : decode b_Collator_mergeOn 78 = .ok (.aload_n 2, 1) := by decide +kernel
theorem d_Collator_mergeOn_79 : decode b_Collator_mergeOn 79 = .ok (.iload 7, 2) := by decide +kernel
theorem d_Collator_mergeOn_81 : decode b_Collator_mergeOn 81 = .ok (.invokevirtual 30, 3) := by decide +kernel
theorem d_Collator_mergeOn_84 : decode b_Collator_mergeOn 84 = .ok (.invokevirtual 34, 3) := by decide +kernel
theorem d_Collator_mergeOn_87 : decode b_Collator_mergeOn 87 = .ok (.iinc 7 1, 3) := by decide +kernel
theorem d_Collator_mergeOn_90 : decode b_Collator_mergeOn 90 = .ok (.iinc 8 1, 3) := by decide +kernel
theorem d_Collator_mergeOn_93 : decode b_Collator_mergeOn 93 = .ok (.goto (-60), 3) := by decide +kernel
theorem d_Collator_mergeOn_96 : decode b_Collator_mergeOn 96 = .ok (.aload_n 2, 1) := by decide +kernel
theorem d_Collator_mergeOn_97 : decode b_Collator_mergeOn 97 = .ok (.iconst 0, 1) := by decide +kernel
theorem d_Collator_mergeOn_98 : decode b_Collator_mergeOn 98 = .ok (.putfield 19, 3) := by decide +kernel
theorem d_Collator_mergeOn_101 : decode b_Collator_mergeOn 101 = .ok (.aload_n 1, 1) := by decide +kernel
theorem d_Collator_mergeOn_102 : decode b_Collator_mergeOn 102 = .ok (.aload_n 0, 1) := by decide +kernel
theorem d_Collator_mergeOn_103 : decode b_Collator_mergeOn 103 = .ok (.getfield 10, 3) := by decide +kernel
theorem d_Collator_mergeOn_106 : decode b_Collator_mergeOn 106 = .ok (.invokevirtual 38, 3) := by decide +kernel
theorem d_Collator_mergeOn_109 : decode b_Collator_mergeOn 109 = .ok (.iload 5, 2) := by decide +kernel
theorem d_Collator_mergeOn_111 : decode b_Collator_mergeOn 111 = .ok (.ireturn, 1) := by decide +kernel
theorem v_Collator_mergeOn : Cond.instanceMethod y_Collator_mergeOn ∈ nm_Ts ∧ Cond.selects y_Collator_mergeOn.cls y_Collator_mergeOn y_Collator_mergeOn ∈ nm_Ts ∧ Cond.initialized y_Collator_mergeOn.cls ∈ nm_Ts ∧ Cond.code y_Collator_mergeOn b_Collator_mergeOn 9 (some .int) ∈ nm_Ts ∧ mz_cl1 y_Collator_mergeOn 4 := ⟨nm_t3 23 rfl rfl, nm_t3 24 rfl rfl, nm_t1 4 rfl rfl, nm_t3 25 rfl rfl, by decide +kernel⟩
def y_Collator_orderOf : MethodName := ⟨"CardOffice$Collator", "orderOf", "(LCardOffice$Deck;ILCardOffice$Deck;III)I"⟩
abbrev b_Collator_orderOf : ByteArray := prog_4_method_4_code
def r_Collator_orderOf (c s : Nat) : Room := { frames := 4, cells := c, slots := s, locals := 84 }
theorem d_Collator_orderOf_0 : decode b_Collator_orderOf 0 = .ok (.iload_n 3, 1) := by decide +kernel
theorem d_Collator_orderOf_1 : decode b_Collator_orderOf 1 = .ok (.aload_n 2, 1) := by decide +kernel
theorem d_Collator_orderOf_2 : decode b_Collator_orderOf 2 = .ok (.getfield 19, 3) := by decide +kernel
theorem d_Collator_orderOf_5 : decode b_Collator_orderOf 5 = .ok (.if_icmp .lt 5, 3) := by decide +kernel
theorem d_Collator_orderOf_8 : decode b_Collator_orderOf 8 = .ok (.iconst (-1), 1) := by decide +kernel
theorem d_Collator_orderOf_9 : decode b_Collator_orderOf 9 = .ok (.ireturn, 1) := by decide +kernel
theorem d_Collator_orderOf_10 : decode b_Collator_orderOf 10 = .ok (.iload_n 1, 1) := by decide +kernel
theorem d_Collator_orderOf_11 : decode b_Collator_orderOf 11 = .ok (.aload_n 0, 1) := by decide +kernel
theorem d_Collator_orderOf_12 : decode b_Collator_orderOf 12 = .ok (.getfield 19, 3) := by decide +kernel
theorem d_Collator_orderOf_15 : decode b_Collator_orderOf 15 = .ok (.if_icmp .lt 5, 3) := by decide +kernel
theorem d_Collator_orderOf_18 : decode b_Collator_orderOf 18 = .ok (.iconst 1, 1) := by decide +kernel
theorem d_Collator_orderOf_19 : decode b_Collator_orderOf 19 = .ok (.ireturn, 1) := by decide +kernel
theorem d_Collator_orderOf_20 : decode b_Collator_orderOf 20 = .ok (.aload_n 0, 1) := by decide +kernel
theorem d_Collator_orderOf_21 : decode b_Collator_orderOf 21 = .ok (.iload_n 1, 1) := by decide +kernel
theorem d_Collator_orderOf_22 : decode b_Collator_orderOf 22 = .ok (.invokevirtual 30, 3) := by decide +kernel
theorem d_Collator_orderOf_25 : decode b_Collator_orderOf 25 = .ok (.aload_n 2, 1) := by decide +kernel
theorem d_Collator_orderOf_26 : decode b_Collator_orderOf 26 = .ok (.iload_n 3, 1) := by decide +kernel
theorem d_Collator_orderOf_27 : decode b_Collator_orderOf 27 = .ok (.invokevirtual 30, 3) := by decide +kernel
theorem d_Collator_orderOf_30 : decode b_Collator_orderOf 30 = .ok (.iload 4, 2) := by decide +kernel
theorem d_Collator_orderOf_32 : decode b_Collator_orderOf 32 = .ok (.iload 5, 2) := by decide +kernel
theorem d_Collator_orderOf_34 : decode b_Collator_orderOf 34 = .ok (.invokevirtual 42, 3) := by decide +kernel
theorem d_Collator_orderOf_37 : decode b_Collator_orderOf 37 = .ok (.ireturn, 1) := by decide +kernel
theorem s_Collator_orderOf : Cond.static y_Collator_orderOf ∈ nm_Ts ∧ Cond.initialized y_Collator_orderOf.cls ∈ nm_Ts ∧ Cond.code y_Collator_orderOf b_Collator_orderOf 6 (some .int) ∈ nm_Ts ∧ mz_cl1 y_Collator_orderOf 6 := ⟨nm_t3 27 rfl rfl, nm_t1 4 rfl rfl, nm_t3 28 rfl rfl, by decide +kernel⟩
def y_Deck_takeAllOf : MethodName := ⟨"CardOffice$Deck", "takeAllOf", "(LCardOffice$Deck;)V"⟩
abbrev b_Deck_takeAllOf : ByteArray := prog_5_method_4_code
def r_Deck_takeAllOf (c s : Nat) : Room := { frames := 0, cells := c, slots := s, locals := 0 }
theorem d_Deck_takeAllOf_0 : decode b_Deck_takeAllOf 0 = .ok (.iconst 0, 1) := by decide +kernel
theorem d_Deck_takeAllOf_1 : decode b_Deck_takeAllOf 1 = .ok (.istore_n 2, 1) := by decide +kernel
theorem d_Deck_takeAllOf_2 : decode b_Deck_takeAllOf 2 = .ok (.iload_n 2, 1) := by decide +kernel
theorem d_Deck_takeAllOf_3 : decode b_Deck_takeAllOf 3 = .ok (.aload_n 1, 1) := by decide +kernel
theorem d_Deck_takeAllOf_4 : decode b_Deck_takeAllOf 4 = .ok (.getfield 17, 3) := by decide +kernel
theorem d_Deck_takeAllOf_7 : decode b_Deck_takeAllOf 7 = .ok (.if_icmp .ge 21, 3) := by decide +kernel
theorem d_Deck_takeAllOf_10 : decode b_Deck_takeAllOf 10 = .ok (.aload_n 0, 1) := by decide +kernel
theorem d_Deck_takeAllOf_11 : decode b_Deck_takeAllOf 11 = .ok (.getfield 11, 3) := by decide +kernel
theorem d_Deck_takeAllOf_14 : decode b_Deck_takeAllOf 14 = .ok (.iload_n 2, 1) := by decide +kernel
theorem d_Deck_takeAllOf_15 : decode b_Deck_takeAllOf 15 = .ok (.aload_n 1, 1) := by decide +kernel
theorem d_Deck_takeAllOf_16 : decode b_Deck_takeAllOf 16 = .ok (.getfield 11, 3) := by decide +kernel
theorem d_Deck_takeAllOf_19 : decode b_Deck_takeAllOf 19 = .ok (.iload_n 2, 1) := by decide +kernel
theorem d_Deck_takeAllOf_20 : decode b_Deck_takeAllOf 20 = .ok (.aaload, 1) := by decide +kernel
theorem d_Deck_takeAllOf_21 : decode b_Deck_takeAllOf 21 = .ok (.aastore, 1) := by decide +kernel
theorem d_Deck_takeAllOf_22 : decode b_Deck_takeAllOf 22 = .ok (.iinc 2 1, 3) := by decide +kernel
theorem d_Deck_takeAllOf_25 : decode b_Deck_takeAllOf 25 = .ok (.goto (-23), 3) := by decide +kernel
theorem d_Deck_takeAllOf_28 : decode b_Deck_takeAllOf 28 = .ok (.aload_n 0, 1) := by decide +kernel
theorem d_Deck_takeAllOf_29 : decode b_Deck_takeAllOf 29 = .ok (.aload_n 1, 1) := by decide +kernel
theorem d_Deck_takeAllOf_30 : decode b_Deck_takeAllOf 30 = .ok (.getfield 17, 3) := by decide +kernel
theorem d_Deck_takeAllOf_33 : decode b_Deck_takeAllOf 33 = .ok (.putfield 17, 3) := by decide +kernel
theorem d_Deck_takeAllOf_36 : decode b_Deck_takeAllOf 36 = .ok (.aload_n 1, 1) := by decide +kernel
theorem d_Deck_takeAllOf_37 : decode b_Deck_takeAllOf 37 = .ok (.iconst 0, 1) := by decide +kernel
theorem d_Deck_takeAllOf_38 : decode b_Deck_takeAllOf 38 = .ok (.putfield 17, 3) := by decide +kernel
theorem d_Deck_takeAllOf_41 : decode b_Deck_takeAllOf 41 = .ok (.return_, 1) := by decide +kernel
theorem v_Deck_takeAllOf : Cond.instanceMethod y_Deck_takeAllOf ∈ nm_Ts ∧ Cond.selects y_Deck_takeAllOf.cls y_Deck_takeAllOf y_Deck_takeAllOf ∈ nm_Ts ∧ Cond.initialized y_Deck_takeAllOf.cls ∈ nm_Ts ∧ Cond.code y_Deck_takeAllOf b_Deck_takeAllOf 3 none ∈ nm_Ts ∧ mz_cl1 y_Deck_takeAllOf 1 := ⟨nm_t3 33 rfl rfl, nm_t3 34 rfl rfl, nm_t1 5 rfl rfl, nm_t3 35 rfl rfl, by decide +kernel⟩
def y_Office_match : MethodName := ⟨"CardOffice", "match", "(IIIII)I"⟩
abbrev b_Office_match : ByteArray := prog_1_method_9_code
def r_Office_match (c s : Nat) : Room := { frames := 7, cells := c, slots := s, locals := 143 }
theorem d_Office_match_0 : decode b_Office_match 0 = .ok (.iload_n 1, 1) := by decide +kernel
theorem d_Office_match_1 : decode b_Office_match 1 = .ok (.iload_n 2, 1) := by decide +kernel
theorem d_Office_match_2 : decode b_Office_match 2 = .ok (.invokestatic 129, 3) := by decide +kernel
theorem d_Office_match_5 : decode b_Office_match 5 = .ok (.ifCond .eq 29, 3) := by decide +kernel
theorem d_Office_match_8 : decode b_Office_match 8 = .ok (.iload_n 1, 1) := by decide +kernel
theorem d_Office_match_9 : decode b_Office_match 9 = .ok (.iload_n 3, 1) := by decide +kernel
theorem d_Office_match_10 : decode b_Office_match 10 = .ok (.invokestatic 129, 3) := by decide +kernel
theorem d_Office_match_13 : decode b_Office_match 13 = .ok (.ifCond .eq 21, 3) := by decide +kernel
theorem d_Office_match_16 : decode b_Office_match 16 = .ok (.iload_n 2, 1) := by decide +kernel
theorem d_Office_match_17 : decode b_Office_match 17 = .ok (.iload_n 3, 1) := by decide +kernel
theorem d_Office_match_18 : decode b_Office_match 18 = .ok (.invokestatic 129, 3) := by decide +kernel
theorem d_Office_match_21 : decode b_Office_match 21 = .ok (.ifCond .eq 13, 3) := by decide +kernel
theorem d_Office_match_24 : decode b_Office_match 24 = .ok (.iload 4, 2) := by decide +kernel
theorem d_Office_match_26 : decode b_Office_match 26 = .ok (.iload 5, 2) := by decide +kernel
theorem d_Office_match_28 : decode b_Office_match 28 = .ok (.invokestatic 120, 3) := by decide +kernel
theorem d_Office_match_31 : decode b_Office_match 31 = .ok (.ifCond .ne 13, 3) := by decide +kernel
theorem d_Office_match_34 : decode b_Office_match 34 = .ok (.new 109, 3) := by decide +kernel
theorem d_Office_match_37 : decode b_Office_match 37 = .ok (.dup, 1) := by decide +kernel
theorem d_Office_match_38 : decode b_Office_match 38 = .ok (.ldc 146, 2) := by decide +kernel
theorem d_Office_match_40 : decode b_Office_match 40 = .ok (.invokespecial 113, 3) := by decide +kernel
theorem d_Office_match_43 : decode b_Office_match 43 = .ok (.athrow, 1) := by decide +kernel
theorem d_Office_match_44 : decode b_Office_match 44 = .ok (.aload_n 0, 1) := by decide +kernel
theorem d_Office_match_45 : decode b_Office_match 45 = .ok (.getfield 11, 3) := by decide +kernel
theorem d_Office_match_48 : decode b_Office_match 48 = .ok (.iload_n 1, 1) := by decide +kernel
theorem d_Office_match_49 : decode b_Office_match 49 = .ok (.aaload, 1) := by decide +kernel
theorem d_Office_match_50 : decode b_Office_match 50 = .ok (.iload 4, 2) := by decide +kernel
theorem d_Office_match_52 : decode b_Office_match 52 = .ok (.iload 5, 2) := by decide +kernel
theorem d_Office_match_54 : decode b_Office_match 54 = .ok (.invokevirtual 134, 3) := by decide +kernel
theorem d_Office_match_57 : decode b_Office_match 57 = .ok (.ifCond .eq 19, 3) := by decide +kernel
theorem d_Office_match_60 : decode b_Office_match 60 = .ok (.aload_n 0, 1) := by decide +kernel
theorem d_Office_match_61 : decode b_Office_match 61 = .ok (.getfield 11, 3) := by decide +kernel
theorem d_Office_match_64 : decode b_Office_match 64 = .ok (.iload_n 2, 1) := by decide +kernel
theorem d_Office_match_65 : decode b_Office_match 65 = .ok (.aaload, 1) := by decide +kernel
theorem d_Office_match_66 : decode b_Office_match 66 = .ok (.iload 4, 2) := by decide +kernel
theorem d_Office_match_68 : decode b_Office_match 68 = .ok (.iload 5, 2) := by decide +kernel
theorem d_Office_match_70 : decode b_Office_match 70 = .ok (.invokevirtual 134, 3) := by decide +kernel
theorem d_Office_match_73 : decode b_Office_match 73 = .ok (.ifCond .ne 13, 3) := by decide +kernel
theorem d_Office_match_76 : decode b_Office_match 76 = .ok (.new 137, 3) := by decide +kernel
theorem d_Office_match_79 : decode b_Office_match 79 = .ok (.dup, 1) := by decide +kernel
theorem d_Office_match_80 : decode b_Office_match 80 = .ok (.ldc 139, 2) := by decide +kernel
theorem d_Office_match_82 : decode b_Office_match 82 = .ok (.invokespecial 141, 3) := by decide +kernel
theorem d_Office_match_85 : decode b_Office_match 85 = .ok (.athrow, 1) := by decide +kernel
theorem d_Office_match_86 : decode b_Office_match 86 = .ok (.aload_n 0, 1) := by decide +kernel
theorem d_Office_match_87 : decode b_Office_match 87 = .ok (.getfield 42, 3) := by decide +kernel
theorem d_Office_match_90 : decode b_Office_match 90 = .ok (.aload_n 0, 1) := by decide +kernel
theorem d_Office_match_91 : decode b_Office_match 91 = .ok (.getfield 11, 3) := by decide +kernel
theorem d_Office_match_94 : decode b_Office_match 94 = .ok (.iload_n 1, 1) := by decide +kernel
theorem d_Office_match_95 : decode b_Office_match 95 = .ok (.aaload, 1) := by decide +kernel
theorem d_Office_match_96 : decode b_Office_match 96 = .ok (.aload_n 0, 1) := by decide +kernel
theorem d_Office_match_97 : decode b_Office_match 97 = .ok (.getfield 11, 3) := by decide +kernel
theorem d_Office_match_100 : decode b_Office_match 100 = .ok (.iload_n 2, 1) := by decide +kernel
theorem d_Office_match_101 : decode b_Office_match 101 = .ok (.aaload, 1) := by decide +kernel
theorem d_Office_match_102 : decode b_Office_match 102 = .ok (.aload_n 0, 1) := by decide +kernel
theorem d_Office_match_103 : decode b_Office_match 103 = .ok (.getfield 11, 3) := by decide +kernel
theorem d_Office_match_106 : decode b_Office_match 106 = .ok (.iload_n 3, 1) := by decide +kernel
theorem d_Office_match_107 : decode b_Office_match 107 = .ok (.aaload, 1) := by decide +kernel
theorem d_Office_match_108 : decode b_Office_match 108 = .ok (.iload 4, 2) := by decide +kernel
theorem d_Office_match_110 : decode b_Office_match 110 = .ok (.iload 5, 2) := by decide +kernel
theorem d_Office_match_112 : decode b_Office_match 112 = .ok (.invokevirtual 148, 3) := by decide +kernel
theorem d_Office_match_115 : decode b_Office_match 115 = .ok (.ireturn, 1) := by decide +kernel
theorem d_Office_match : decode b_Office_match 0 = .ok (.iload_n 1, 1) ∧ decode b_Office_match 1 = .ok (.iload_n 2, 1) ∧ decode b_Office_match 2 = .ok (.invokestatic 129, 3) ∧ decode b_Office_match 5 = .ok (.ifCond .eq 29, 3) ∧ decode b_Office_match 8 = .ok (.iload_n 1, 1) ∧ decode b_Office_match 9 = .ok (.iload_n 3, 1) ∧ decode b_Office_match 10 = .ok (.invokestatic 129, 3) ∧ decode b_Office_match 13 = .ok (.ifCond .eq 21, 3) ∧ decode b_Office_match 16 = .ok (.iload_n 2, 1) ∧ decode b_Office_match 17 = .ok (.iload_n 3, 1) ∧ decode b_Office_match 18 = .ok (.invokestatic 129, 3) ∧ decode b_Office_match 21 = .ok (.ifCond .eq 13, 3) ∧ decode b_Office_match 24 = .ok (.iload 4, 2) ∧ decode b_Office_match 26 = .ok (.iload 5, 2) ∧ decode b_Office_match 28 = .ok (.invokestatic 120, 3) ∧ decode b_Office_match 31 = .ok (.ifCond .ne 13, 3) ∧ decode b_Office_match 34 = .ok (.new 109, 3) ∧ decode b_Office_match 37 = .ok (.dup, 1) ∧ decode b_Office_match 38 = .ok (.ldc 146, 2) ∧ decode b_Office_match 40 = .ok (.invokespecial 113, 3) ∧ decode b_Office_match 43 = .ok (.athrow, 1) ∧ decode b_Office_match 44 = .ok (.aload_n 0, 1) ∧ decode b_Office_match 45 = .ok (.getfield 11, 3) ∧ decode b_Office_match 48 = .ok (.iload_n 1, 1) ∧ decode b_Office_match 49 = .ok (.aaload, 1) ∧ decode b_Office_match 50 = .ok (.iload 4, 2) ∧ decode b_Office_match 52 = .ok (.iload 5, 2) ∧ decode b_Office_match 54 = .ok (.invokevirtual 134, 3) ∧ decode b_Office_match 57 = .ok (.ifCond .eq 19, 3) ∧ decode b_Office_match 60 = .ok (.aload_n 0, 1) ∧ decode b_Office_match 61 = .ok (.getfield 11, 3) ∧ decode b_Office_match 64 = .ok (.iload_n 2, 1) ∧ decode b_Office_match 65 = .ok (.aaload, 1) ∧ decode b_Office_match 66 = .ok (.iload 4, 2) ∧ decode b_Office_match 68 = .ok (.iload 5, 2) ∧ decode b_Office_match 70 = .ok (.invokevirtual 134, 3) ∧ decode b_Office_match 73 = .ok (.ifCond .ne 13, 3) ∧ decode b_Office_match 76 = .ok (.new 137, 3) ∧ decode b_Office_match 79 = .ok (.dup, 1) ∧ decode b_Office_match 80 = .ok (.ldc 139, 2) ∧ decode b_Office_match 82 = .ok (.invokespecial 141, 3) ∧ decode b_Office_match 85 = .ok (.athrow, 1) ∧ decode b_Office_match 86 = .ok (.aload_n 0, 1) ∧ decode b_Office_match 87 = .ok (.getfield 42, 3) ∧ decode b_Office_match 90 = .ok (.aload_n 0, 1) ∧ decode b_Office_match 91 = .ok (.getfield 11, 3) ∧ decode b_Office_match 94 = .ok (.iload_n 1, 1) ∧ decode b_Office_match 95 = .ok (.aaload, 1) ∧ decode b_Office_match 96 = .ok (.aload_n 0, 1) ∧ decode b_Office_match 97 = .ok (.getfield 11, 3) ∧ decode b_Office_match 100 = .ok (.iload_n 2, 1) ∧ decode b_Office_match 101 = .ok (.aaload, 1) ∧ decode b_Office_match 102 = .ok (.aload_n 0, 1) ∧ decode b_Office_match 103 = .ok (.getfield 11, 3) ∧ decode b_Office_match 106 = .ok (.iload_n 3, 1) ∧ decode b_Office_match 107 = .ok (.aaload, 1) ∧ decode b_Office_match 108 = .ok (.iload 4, 2) ∧ decode b_Office_match 110 = .ok (.iload 5, 2) ∧ decode b_Office_match 112 = .ok (.invokevirtual 148, 3) ∧ decode b_Office_match 115 = .ok (.ireturn, 1) := ⟨d_Office_match_0, d_Office_match_1, d_Office_match_2, d_Office_match_5, d_Office_match_8, d_Office_match_9, d_Office_match_10, d_Office_match_13, d_Office_match_16, d_Office_match_17, d_Office_match_18, d_Office_match_21, d_Office_match_24, d_Office_match_26, d_Office_match_28, d_Office_match_31, d_Office_match_34, d_Office_match_37, d_Office_match_38, d_Office_match_40, d_Office_match_43, d_Office_match_44, d_Office_match_45, d_Office_match_48, d_Office_match_49, d_Office_match_50, d_Office_match_52, d_Office_match_54, d_Office_match_57, d_Office_match_60, d_Office_match_61, d_Office_match_64, d_Office_match_65, d_Office_match_66, d_Office_match_68, d_Office_match_70, d_Office_match_73, d_Office_match_76, d_Office_match_79, d_Office_match_80, d_Office_match_82, d_Office_match_85, d_Office_match_86, d_Office_match_87, d_Office_match_90, d_Office_match_91, d_Office_match_94, d_Office_match_95, d_Office_match_96, d_Office_match_97, d_Office_match_100, d_Office_match_101, d_Office_match_102, d_Office_match_103, d_Office_match_106, d_Office_match_107, d_Office_match_108, d_Office_match_110, d_Office_match_112, d_Office_match_115⟩
theorem v_Office_match : Cond.instanceMethod y_Office_match ∈ nm_Ts ∧ Cond.selects y_Office_match.cls y_Office_match y_Office_match ∈ nm_Ts ∧ Cond.initialized y_Office_match.cls ∈ nm_Ts ∧ Cond.code y_Office_match b_Office_match 6 (some .int) ∈ nm_Ts ∧ mz_cl1 y_Office_match 5 := ⟨nm_t3 40 rfl rfl, nm_t3 41 rfl rfl, nm_t1 1 rfl rfl, nm_t3 42 rfl rfl, by decide +kernel⟩
def y_Collator_matchOn : MethodName := ⟨"CardOffice$Collator", "matchOn", "(LCardOffice$Deck;LCardOffice$Deck;LCardOffice$Deck;II)I"⟩
abbrev b_Collator_matchOn : ByteArray := prog_4_method_3_code
def r_Collator_matchOn (c s : Nat) : Room := { frames := 5, cells := c, slots := s, locals := 109 }
theorem d_Collator_matchOn_0 : decode b_Collator_matchOn 0 = .ok (.aload_n 1, 1) := by decide +kernel
theorem d_Collator_matchOn_1 : decode b_Collator_matchOn 1 = .ok (.getfield 19, 3) := by decide +kernel
theorem d_Collator_matchOn_4 : decode b_Collator_matchOn 4 = .ok (.aload_n 2, 1) := by decide +kernel
theorem d_Collator_matchOn_5 : decode b_Collator_matchOn 5 = .ok (.getfield 19, 3) := by decide +kernel
theorem d_Collator_matchOn_8 : decode b_Collator_matchOn 8 = .ok (.iadd, 1) := by decide +kernel
theorem d_Collator_matchOn_9 : decode b_Collator_matchOn 9 = .ok (.istore 6, 2) := by decide +kernel
theorem d_Collator_matchOn_11 : decode b_Collator_matchOn 11 = .ok (.aload_n 3, 1) := by decide +kernel
theorem d_Collator_matchOn_12 : decode b_Collator_matchOn 12 = .ok (.getfield 19, 3) := by decide +kernel
theorem d_Collator_matchOn_15 : decode b_Collator_matchOn 15 = .ok (.istore 7, 2) := by decide +kernel
theorem d_Collator_matchOn_17 : decode b_Collator_matchOn 17 = .ok (.iconst 0, 1) := by decide +kernel
theorem d_Collator_matchOn_18 : decode b_Collator_matchOn 18 = .ok (.istore 8, 2) := by decide +kernel
theorem d_Collator_matchOn_20 : decode b_Collator_matchOn 20 = .ok (.iconst 0, 1) := by decide +kernel
theorem d_Collator_matchOn_21 : decode b_Collator_matchOn 21 = .ok (.istore 9, 2) := by decide +kernel
theorem d_Collator_matchOn_23 : decode b_Collator_matchOn 23 = .ok (.aconst_null, 1) := by decide +kernel
theorem d_Collator_matchOn_24 : decode b_Collator_matchOn 24 = .ok (.astore 10, 2) := by decide +kernel
theorem d_Collator_matchOn_26 : decode b_Collator_matchOn 26 = .ok (.iconst 0, 1) := by decide +kernel
theorem d_Collator_matchOn_27 : decode b_Collator_matchOn 27 = .ok (.istore 11, 2) := by decide +kernel
theorem d_Collator_matchOn_29 : decode b_Collator_matchOn 29 = .ok (.iload 11, 2) := by decide +kernel
theorem d_Collator_matchOn_31 : decode b_Collator_matchOn 31 = .ok (.iload 6, 2) := by decide +kernel
theorem d_Collator_matchOn_33 : decode b_Collator_matchOn 33 = .ok (.if_icmp .ge 138, 3) := by decide +kernel
theorem d_Collator_matchOn_36 : decode b_Collator_matchOn 36 = .ok (.aload_n 1, 1) := by decide +kernel
theorem d_Collator_matchOn_37 : decode b_Collator_matchOn 37 = .ok (.iload 8, 2) := by decide +kernel
theorem d_Collator_matchOn_39 : decode b_Collator_matchOn 39 = .ok (.aload_n 2, 1) := by decide +kernel
theorem d_Collator_matchOn_40 : decode b_Collator_matchOn 40 = .ok (.iload 9, 2) := by decide +kernel
theorem d_Collator_matchOn_42 : decode b_Collator_matchOn 42 = .ok (.iload 4, 2) := by decide +kernel
theorem d_Collator_matchOn_44 : decode b_Collator_matchOn 44 = .ok (.iload 5, 2) := by decide +kernel
theorem d_Collator_matchOn_46 : decode b_Collator_matchOn 46 = .ok (.invokestatic 26, 3) := by decide +kernel
theorem d_Collator_matchOn_49 : decode b_Collator_matchOn 49 = .ok (.istore 12, 2) := by decide +kernel
theorem d_Collator_matchOn_51 : decode b_Collator_matchOn 51 = .ok (.iload 12, 2) := by decide +kernel
theorem d_Collator_matchOn_53 : decode b_Collator_matchOn 53 = .ok (.ifCond .gt 53, 3) := by decide +kernel
theorem d_Collator_matchOn_56 : decode b_Collator_matchOn 56 = .ok (.iload 12, 2) := by decide +kernel
theorem d_Collator_matchOn_58 : decode b_Collator_matchOn 58 = .ok (.ifCond .ne 12, 3) := by decide +kernel
theorem d_Collator_matchOn_61 : decode b_Collator_matchOn 61 = .ok (.aload_n 1, 1) := by decide +kernel
theorem d_Collator_matchOn_62 : decode b_Collator_matchOn 62 = .ok (.iload 8, 2) := by decide +kernel
theorem d_Collator_matchOn_64 : decode b_Collator_matchOn 64 = .ok (.invokevirtual 30, 3) := by decide +kernel
theorem d_Collator_matchOn_67 : decode b_Collator_matchOn 67 = .ok (.goto 5, 3) := by decide +kernel
theorem d_Collator_matchOn_70 : decode b_Collator_matchOn 70 = .ok (.aload 10, 2) := by decide +kernel
theorem d_Collator_matchOn_72 : decode b_Collator_matchOn 72 = .ok (.astore 10, 2) := by decide +kernel
theorem d_Collator_matchOn_74 : decode b_Collator_matchOn 74 = .ok (.iload 12, 2) := by decide +kernel
theorem d_Collator_matchOn_76 : decode b_Collator_matchOn 76 = .ok (.ifCond .ne 7, 3) := by decide +kernel
theorem d_Collator_matchOn_79 : decode b_Collator_matchOn 79 = .ok (.aload_n 3, 1) := by decide +kernel
theorem d_Collator_matchOn_80 : decode b_Collator_matchOn 80 = .ok (.goto 7, 3) := by decide +kernel
theorem d_Collator_matchOn_83 : decode b_Collator_matchOn 83 = .ok (.aload_n 0, 1) := by decide +kernel
theorem d_Collator_matchOn_84 : decode b_Collator_matchOn 84 = .ok (.getfield 10, 3) := by decide +kernel
theorem d_Collator_matchOn_87 : decode b_Collator_matchOn 87 = .ok (.astore 13, 2) := by decide +kernel
theorem d_Collator_matchOn_89 : decode b_Collator_matchOn 89 = .ok (.aload 13, 2) := by decide +kernel
theorem d_Collator_matchOn_91 : decode b_Collator_matchOn 91 = .ok (.aload_n 1, 1) := by decide +kernel
theorem d_Collator_matchOn_92 : decode b_Collator_matchOn 92 = .ok (.iload 8, 2) := by decide +kernel
theorem d_Collator_matchOn_94 : decode b_Collator_matchOn 94 = .ok (.invokevirtual 30, 3) := by decide +kernel
theorem d_Collator_matchOn_97 : decode b_Collator_matchOn 97 = .ok (.invokevirtual 34, 3) := by decide +kernel
theorem d_Collator_matchOn_100 : decode b_Collator_matchOn 100 = .ok (.iinc 8 1, 3) := by decide +kernel
theorem d_Collator_matchOn_103 : decode b_Collator_matchOn 103 = .ok (.goto 62, 3) := by decide +kernel
theorem d_Collator_matchOn_106 : decode b_Collator_matchOn 106 = .ok (.aload 10, 2) := by decide +kernel
theorem d_Collator_matchOn_108 : decode b_Collator_matchOn 108 = .ok (.ifnull 25, 3) := by decide +kernel
theorem d_Collator_matchOn_111 : decode b_Collator_matchOn 111 = .ok (.aload_n 2, 1) := by decide +kernel
theorem d_Collator_matchOn_112 : decode b_Collator_matchOn 112 = .ok (.iload 9, 2) := by decide +kernel
theorem d_Collator_matchOn_114 : decode b_Collator_matchOn 114 = .ok (.invokevirtual 30, 3) := by decide +kernel
theorem d_Collator_matchOn_117 : decode b_Collator_matchOn 117 = .ok (.aload 10, 2) := by decide +kernel
theorem d_Collator_matchOn_119 : decode b_Collator_matchOn 119 = .ok (.iload 4, 2) := by decide +kernel
theorem d_Collator_matchOn_121 : decode b_Collator_matchOn 121 = .ok (.iload 5, 2) := by decide +kernel
theorem d_Collator_matchOn_123 : decode b_Collator_matchOn 123 = .ok (.invokevirtual 42, 3) := by decide +kernel
theorem d_Collator_matchOn_126 : decode b_Collator_matchOn 126 = .ok (.ifCond .ne 7, 3) := by decide +kernel
theorem d_Collator_matchOn_129 : decode b_Collator_matchOn 129 = .ok (.iconst 1, 1) := by decide +kernel
theorem d_Collator_matchOn_130 : decode b_Collator_matchOn 130 = .ok (.goto 4, 3) := by decide +kernel
theorem d_Collator_matchOn_133 : decode b_Collator_matchOn 133 = .ok (.iconst 0, 1) := by decide +kernel
theorem d_Collator_matchOn_134 : decode b_Collator_matchOn 134 = .ok (.istore 13, 2) := by decide +kernel
theorem d_Collator_matchOn_136 : decode b_Collator_matchOn 136 = .ok (.iload 13, 2) := by decide +kernel
theorem d_Collator_matchOn_138 : decode b_Collator_matchOn 138 = .ok (.ifCond .eq 7, 3) := by decide +kernel
theorem d_Collator_matchOn_141 : decode b_Collator_matchOn 141 = .ok (.aload_n 3, 1) := by decide +kernel
theorem d_Collator_matchOn_142 : decode b_Collator_matchOn 142 = .ok (.goto 7, 3) := by decide +kernel
theorem d_Collator_matchOn_145 : decode b_Collator_matchOn 145 = .ok (.aload_n 0, 1) := by decide +kernel
theorem d_Collator_matchOn_146 : decode b_Collator_matchOn 146 = .ok (.getfield 16, 3) := by decide +kernel
theorem d_Collator_matchOn_149 : decode b_Collator_matchOn 149 = .ok (.astore 14, 2) := by decide +kernel
theorem d_Collator_matchOn_151 : decode b_Collator_matchOn 151 = .ok (.aload 14, 2) := by decide +kernel
theorem d_Collator_matchOn_153 : decode b_Collator_matchOn 153 = .ok (.aload_n 2, 1) := by decide +kernel
theorem d_Collator_matchOn_154 : decode b_Collator_matchOn 154 = .ok (.iload 9, 2) := by decide +kernel
theorem d_Collator_matchOn_156 : decode b_Collator_matchOn 156 = .ok (.invokevirtual 30, 3) := by decide +kernel
theorem d_Collator_matchOn_159 : decode b_Collator_matchOn 159 = .ok (.invokevirtual 34, 3) := by decide +kernel
theorem d_Collator_matchOn_162 : decode b_Collator_matchOn 162 = .ok (.iinc 9 1, 3) := by decide +kernel
theorem d_Collator_matchOn_165 : decode b_Collator_matchOn 165 = .ok (.iinc 11 1, 3) := by decide +kernel
theorem d_Collator_matchOn_168 : decode b_Collator_matchOn 168 = .ok (.goto (-139), 3) := by decide +kernel
theorem d_Collator_matchOn_171 : decode b_Collator_matchOn 171 = .ok (.aload_n 1, 1) := by decide +kernel
theorem d_Collator_matchOn_172 : decode b_Collator_matchOn 172 = .ok (.aload_n 0, 1) := by decide +kernel
theorem d_Collator_matchOn_173 : decode b_Collator_matchOn 173 = .ok (.getfield 10, 3) := by decide +kernel
theorem d_Collator_matchOn_176 : decode b_Collator_matchOn 176 = .ok (.invokevirtual 38, 3) := by decide +kernel
theorem d_Collator_matchOn_179 : decode b_Collator_matchOn 179 = .ok (.aload_n 2, 1) := by decide +kernel
theorem d_Collator_matchOn_180 : decode b_Collator_matchOn 180 = .ok (.aload_n 0, 1) := by decide +kernel
theorem d_Collator_matchOn_181 : decode b_Collator_matchOn 181 = .ok (.getfield 16, 3) := by decide +kernel
theorem d_Collator_matchOn_184 : decode b_Collator_matchOn 184 = .ok (.invokevirtual 38, 3) := by decide +kernel
theorem d_Collator_matchOn_187 : decode b_Collator_matchOn 187 = .ok (.aload_n 0, 1) := by decide +kernel
theorem d_Collator_matchOn_188 : decode b_Collator_matchOn 188 = .ok (.dup, 1) := by decide +kernel
theorem d_Collator_matchOn_189 : decode b_Collator_matchOn 189 = .ok (.getfield 23, 3) := by decide +kernel
theorem d_Collator_matchOn_192 : decode b_Collator_matchOn 192 = .ok (.aload_n 3, 1) := by decide +kernel
theorem d_Collator_matchOn_193 : decode b_Collator_matchOn 193 = .ok (.getfield 19, 3) := by decide +kernel
theorem d_Collator_matchOn_196 : decode b_Collator_matchOn 196 = .ok (.iload 7, 2) := by decide +kernel
theorem d_Collator_matchOn_198 : decode b_Collator_matchOn 198 = .ok (.isub, 1) := by decide +kernel
theorem d_Collator_matchOn_199 : decode b_Collator_matchOn 199 = .ok (.iadd, 1) := by decide +kernel
theorem d_Collator_matchOn_200 : decode b_Collator_matchOn 200 = .ok (.putfield 23, 3) := by decide +kernel
theorem d_Collator_matchOn_203 : decode b_Collator_matchOn 203 = .ok (.aload_n 3, 1) := by decide +kernel
theorem d_Collator_matchOn_204 : decode b_Collator_matchOn 204 = .ok (.getfield 19, 3) := by decide +kernel
theorem d_Collator_matchOn_207 : decode b_Collator_matchOn 207 = .ok (.iload 7, 2) := by decide +kernel
theorem d_Collator_matchOn_209 : decode b_Collator_matchOn 209 = .ok (.isub, 1) := by decide +kernel
theorem d_Collator_matchOn_210 : decode b_Collator_matchOn 210 = .ok (.ireturn, 1) := by decide +kernel
theorem d_Collator_matchOn : decode b_Collator_matchOn 0 = .ok (.aload_n 1, 1) ∧ decode b_Collator_matchOn 1 = .ok (.getfield 19, 3) ∧ decode b_Collator_matchOn 4 = .ok (.aload_n 2, 1) ∧ decode b_Collator_matchOn 5 = .ok (.getfield 19, 3) ∧ decode b_Collator_matchOn 8 = .ok (.iadd, 1) ∧ decode b_Collator_matchOn 9 = .ok (.istore 6, 2) ∧ decode b_Collator_matchOn 11 = .ok (.aload_n 3, 1) ∧ decode b_Collator_matchOn 12 = .ok (.getfield 19, 3) ∧ decode b_Collator_matchOn 15 = .ok (.istore 7, 2) ∧ decode b_Collator_matchOn 17 = .ok (.iconst 0, 1) ∧ decode b_Collator_matchOn 18 = .ok (.istore 8, 2) ∧ decode b_Collator_matchOn 20 = .ok (.iconst 0, 1) ∧ decode b_Collator_matchOn 21 = .ok (.istore 9, 2) ∧ decode b_Collator_matchOn 23 = .ok (.aconst_null, 1) ∧ decode b_Collator_matchOn 24 = .ok (.astore 10, 2) ∧ decode b_Collator_matchOn 26 = .ok (.iconst 0, 1) ∧ decode b_Collator_matchOn 27 = .ok (.istore 11, 2) ∧ decode b_Collator_matchOn 29 = .ok (.iload 11, 2) ∧ decode b_Collator_matchOn 31 = .ok (.iload 6, 2) ∧ decode b_Collator_matchOn 33 = .ok (.if_icmp .ge 138, 3) ∧ decode b_Collator_matchOn 36 = .ok (.aload_n 1, 1) ∧ decode b_Collator_matchOn 37 = .ok (.iload 8, 2) ∧ decode b_Collator_matchOn 39 = .ok (.aload_n 2, 1) ∧ decode b_Collator_matchOn 40 = .ok (.iload 9, 2) ∧ decode b_Collator_matchOn 42 = .ok (.iload 4, 2) ∧ decode b_Collator_matchOn 44 = .ok (.iload 5, 2) ∧ decode b_Collator_matchOn 46 = .ok (.invokestatic 26, 3) ∧ decode b_Collator_matchOn 49 = .ok (.istore 12, 2) ∧ decode b_Collator_matchOn 51 = .ok (.iload 12, 2) ∧ decode b_Collator_matchOn 53 = .ok (.ifCond .gt 53, 3) ∧ decode b_Collator_matchOn 56 = .ok (.iload 12, 2) ∧ decode b_Collator_matchOn 58 = .ok (.ifCond .ne 12, 3) ∧ decode b_Collator_matchOn 61 = .ok (.aload_n 1, 1) ∧ decode b_Collator_matchOn 62 = .ok (.iload 8, 2) ∧ decode b_Collator_matchOn 64 = .ok (.invokevirtual 30, 3) ∧ decode b_Collator_matchOn 67 = .ok (.goto 5, 3) ∧ decode b_Collator_matchOn 70 = .ok (.aload 10, 2) ∧ decode b_Collator_matchOn 72 = .ok (.astore 10, 2) ∧ decode b_Collator_matchOn 74 = .ok (.iload 12, 2) ∧ decode b_Collator_matchOn 76 = .ok (.ifCond .ne 7, 3) ∧ decode b_Collator_matchOn 79 = .ok (.aload_n 3, 1) ∧ decode b_Collator_matchOn 80 = .ok (.goto 7, 3) ∧ decode b_Collator_matchOn 83 = .ok (.aload_n 0, 1) ∧ decode b_Collator_matchOn 84 = .ok (.getfield 10, 3) ∧ decode b_Collator_matchOn 87 = .ok (.astore 13, 2) ∧ decode b_Collator_matchOn 89 = .ok (.aload 13, 2) ∧ decode b_Collator_matchOn 91 = .ok (.aload_n 1, 1) ∧ decode b_Collator_matchOn 92 = .ok (.iload 8, 2) ∧ decode b_Collator_matchOn 94 = .ok (.invokevirtual 30, 3) ∧ decode b_Collator_matchOn 97 = .ok (.invokevirtual 34, 3) ∧ decode b_Collator_matchOn 100 = .ok (.iinc 8 1, 3) ∧ decode b_Collator_matchOn 103 = .ok (.goto 62, 3) ∧ decode b_Collator_matchOn 106 = .ok (.aload 10, 2) ∧ decode b_Collator_matchOn 108 = .ok (.ifnull 25, 3) ∧ decode b_Collator_matchOn 111 = .ok (.aload_n 2, 1) ∧ decode b_Collator_matchOn 112 = .ok (.iload 9, 2) ∧ decode b_Collator_matchOn 114 = .ok (.invokevirtual 30, 3) ∧ decode b_Collator_matchOn 117 = .ok (.aload 10, 2) ∧ decode b_Collator_matchOn 119 = .ok (.iload 4, 2) ∧ decode b_Collator_matchOn 121 = .ok (.iload 5, 2) ∧ decode b_Collator_matchOn 123 = .ok (.invokevirtual 42, 3) ∧ decode b_Collator_matchOn 126 = .ok (.ifCond .ne 7, 3) ∧ decode b_Collator_matchOn 129 = .ok (.iconst 1, 1) ∧ decode b_Collator_matchOn 130 = .ok (.goto 4, 3) ∧ decode b_Collator_matchOn 133 = .ok (.iconst 0, 1) ∧ decode b_Collator_matchOn 134 = .ok (.istore 13, 2) ∧ decode b_Collator_matchOn 136 = .ok (.iload 13, 2) ∧ decode b_Collator_matchOn 138 = .ok (.ifCond .eq 7, 3) ∧ decode b_Collator_matchOn 141 = .ok (.aload_n 3, 1) ∧ decode b_Collator_matchOn 142 = .ok (.goto 7, 3) ∧ decode b_Collator_matchOn 145 = .ok (.aload_n 0, 1) ∧ decode b_Collator_matchOn 146 = .ok (.getfield 16, 3) ∧ decode b_Collator_matchOn 149 = .ok (.astore 14, 2) ∧ decode b_Collator_matchOn 151 = .ok (.aload 14, 2) ∧ decode b_Collator_matchOn 153 = .ok (.aload_n 2, 1) ∧ decode b_Collator_matchOn 154 = .ok (.iload 9, 2) ∧ decode b_Collator_matchOn 156 = .ok (.invokevirtual 30, 3) ∧ decode b_Collator_matchOn 159 = .ok (.invokevirtual 34, 3) ∧ decode b_Collator_matchOn 162 = .ok (.iinc 9 1, 3) ∧ decode b_Collator_matchOn 165 = .ok (.iinc 11 1, 3) ∧ decode b_Collator_matchOn 168 = .ok (.goto (-139), 3) ∧ decode b_Collator_matchOn 171 = .ok (.aload_n 1, 1) ∧ decode b_Collator_matchOn 172 = .ok (.aload_n 0, 1) ∧ decode b_Collator_matchOn 173 = .ok (.getfield 10, 3) ∧ decode b_Collator_matchOn 176 = .ok (.invokevirtual 38, 3) ∧ decode b_Collator_matchOn 179 = .ok (.aload_n 2, 1) ∧ decode b_Collator_matchOn 180 = .ok (.aload_n 0, 1) ∧ decode b_Collator_matchOn 181 = .ok (.getfield 16, 3) ∧ decode b_Collator_matchOn 184 = .ok (.invokevirtual 38, 3) ∧ decode b_Collator_matchOn 187 = .ok (.aload_n 0, 1) ∧ decode b_Collator_matchOn 188 = .ok (.dup, 1) ∧ decode b_Collator_matchOn 189 = .ok (.getfield 23, 3) ∧ decode b_Collator_matchOn 192 = .ok (.aload_n 3, 1) ∧ decode b_Collator_matchOn 193 = .ok (.getfield 19, 3) ∧ decode b_Collator_matchOn 196 = .ok (.iload 7, 2) ∧ decode b_Collator_matchOn 198 = .ok (.isub, 1) ∧ decode b_Collator_matchOn 199 = .ok (.iadd, 1) ∧ decode b_Collator_matchOn 200 = .ok (.putfield 23, 3) ∧ decode b_Collator_matchOn 203 = .ok (.aload_n 3, 1) ∧ decode b_Collator_matchOn 204 = .ok (.getfield 19, 3) ∧ decode b_Collator_matchOn 207 = .ok (.iload 7, 2) ∧ decode b_Collator_matchOn 209 = .ok (.isub, 1) ∧ decode b_Collator_matchOn 210 = .ok (.ireturn, 1) := ⟨d_Collator_matchOn_0, d_Collator_matchOn_1, d_Collator_matchOn_4, d_Collator_matchOn_5, d_Collator_matchOn_8, d_Collator_matchOn_9, d_Collator_matchOn_11, d_Collator_matchOn_12, d_Collator_matchOn_15, d_Collator_matchOn_17, d_Collator_matchOn_18, d_Collator_matchOn_20, d_Collator_matchOn_21, d_Collator_matchOn_23, d_Collator_matchOn_24, d_Collator_matchOn_26, d_Collator_matchOn_27, d_Collator_matchOn_29, d_Collator_matchOn_31, d_Collator_matchOn_33, d_Collator_matchOn_36, d_Collator_matchOn_37, d_Collator_matchOn_39, d_Collator_matchOn_40, d_Collator_matchOn_42, d_Collator_matchOn_44, d_Collator_matchOn_46, d_Collator_matchOn_49, d_Collator_matchOn_51, d_Collator_matchOn_53, d_Collator_matchOn_56, d_Collator_matchOn_58, d_Collator_matchOn_61, d_Collator_matchOn_62, d_Collator_matchOn_64, d_Collator_matchOn_67, d_Collator_matchOn_70, d_Collator_matchOn_72, d_Collator_matchOn_74, d_Collator_matchOn_76, d_Collator_matchOn_79, d_Collator_matchOn_80, d_Collator_matchOn_83, d_Collator_matchOn_84, d_Collator_matchOn_87, d_Collator_matchOn_89, d_Collator_matchOn_91, d_Collator_matchOn_92, d_Collator_matchOn_94, d_Collator_matchOn_97, d_Collator_matchOn_100, d_Collator_matchOn_103, d_Collator_matchOn_106, d_Collator_matchOn_108, d_Collator_matchOn_111, d_Collator_matchOn_112, d_Collator_matchOn_114, d_Collator_matchOn_117, d_Collator_matchOn_119, d_Collator_matchOn_121, d_Collator_matchOn_123, d_Collator_matchOn_126, d_Collator_matchOn_129, d_Collator_matchOn_130, d_Collator_matchOn_133, d_Collator_matchOn_134, d_Collator_matchOn_136, d_Collator_matchOn_138, d_Collator_matchOn_141, d_Collator_matchOn_142, d_Collator_matchOn_145, d_Collator_matchOn_146, d_Collator_matchOn_149, d_Collator_matchOn_151, d_Collator_matchOn_153, d_Collator_matchOn_154, d_Collator_matchOn_156, d_Collator_matchOn_159, d_Collator_matchOn_162, d_Collator_matchOn_165, d_Collator_matchOn_168, d_Collator_matchOn_171, d_Collator_matchOn_172, d_Collator_matchOn_173, d_Collator_matchOn_176, d_Collator_matchOn_179, d_Collator_matchOn_180, d_Collator_matchOn_181, d_Collator_matchOn_184, d_Collator_matchOn_187, d_Collator_matchOn_188, d_Collator_matchOn_189, d_Collator_matchOn_192, d_Collator_matchOn_193, d_Collator_matchOn_196, d_Collator_matchOn_198, d_Collator_matchOn_199, d_Collator_matchOn_200, d_Collator_matchOn_203, d_Collator_matchOn_204, d_Collator_matchOn_207, d_Collator_matchOn_209, d_Collator_matchOn_210⟩
theorem v_Collator_matchOn : Cond.instanceMethod y_Collator_matchOn ∈ nm_Ts ∧ Cond.selects y_Collator_matchOn.cls y_Collator_matchOn y_Collator_matchOn ∈ nm_Ts ∧ Cond.initialized y_Collator_matchOn.cls ∈ nm_Ts ∧ Cond.code y_Collator_matchOn b_Collator_matchOn 15 (some .int) ∈ nm_Ts ∧ mz_cl1 y_Collator_matchOn 5 := ⟨nm_t3 45 rfl rfl, nm_t3 46 rfl rfl, nm_t1 4 rfl rfl, nm_t3 47 rfl rfl, by decide +kernel⟩
def y_Office_reproduce : MethodName := ⟨"CardOffice", "reproduce", "(III)I"⟩
abbrev b_Office_reproduce : ByteArray := prog_1_method_10_code
def r_Office_reproduce (c s : Nat) : Room := { frames := 7, cells := c, slots := s, locals := 92 }
theorem d_Office_reproduce_0 : decode b_Office_reproduce 0 = .ok (.iload_n 1, 1) := by decide +kernel
theorem d_Office_reproduce_1 : decode b_Office_reproduce 1 = .ok (.invokestatic 84, 3) := by decide +kernel
theorem d_Office_reproduce_4 : decode b_Office_reproduce 4 = .ok (.ifCond .eq 11, 3) := by decide +kernel
theorem d_Office_reproduce_7 : decode b_Office_reproduce 7 = .ok (.iload_n 2, 1) := by decide +kernel
theorem d_Office_reproduce_8 : decode b_Office_reproduce 8 = .ok (.iload_n 3, 1) := by decide +kernel
theorem d_Office_reproduce_9 : decode b_Office_reproduce 9 = .ok (.invokestatic 129, 3) := by decide +kernel
theorem d_Office_reproduce_12 : decode b_Office_reproduce 12 = .ok (.ifCond .ne 13, 3) := by decide +kernel
theorem d_Office_reproduce_15 : decode b_Office_reproduce 15 = .ok (.new 109, 3) := by decide +kernel
theorem d_Office_reproduce_18 : decode b_Office_reproduce 18 = .ok (.dup, 1) := by decide +kernel
theorem d_Office_reproduce_19 : decode b_Office_reproduce 19 = .ok (.ldc 152, 2) := by decide +kernel
theorem d_Office_reproduce_21 : decode b_Office_reproduce 21 = .ok (.invokespecial 113, 3) := by decide +kernel
theorem d_Office_reproduce_24 : decode b_Office_reproduce 24 = .ok (.athrow, 1) := by decide +kernel
theorem d_Office_reproduce_25 : decode b_Office_reproduce 25 = .ok (.aload_n 0, 1) := by decide +kernel
theorem d_Office_reproduce_26 : decode b_Office_reproduce 26 = .ok (.getfield 49, 3) := by decide +kernel
theorem d_Office_reproduce_29 : decode b_Office_reproduce 29 = .ok (.aload_n 0, 1) := by decide +kernel
theorem d_Office_reproduce_30 : decode b_Office_reproduce 30 = .ok (.getfield 17, 3) := by decide +kernel
theorem d_Office_reproduce_33 : decode b_Office_reproduce 33 = .ok (.iload_n 1, 1) := by decide +kernel
theorem d_Office_reproduce_34 : decode b_Office_reproduce 34 = .ok (.aaload, 1) := by decide +kernel
theorem d_Office_reproduce_35 : decode b_Office_reproduce 35 = .ok (.aload_n 0, 1) := by decide +kernel
theorem d_Office_reproduce_36 : decode b_Office_reproduce 36 = .ok (.getfield 11, 3) := by decide +kernel
theorem d_Office_reproduce_39 : decode b_Office_reproduce 39 = .ok (.iload_n 2, 1) := by decide +kernel
theorem d_Office_reproduce_40 : decode b_Office_reproduce 40 = .ok (.aaload, 1) := by decide +kernel
theorem d_Office_reproduce_41 : decode b_Office_reproduce 41 = .ok (.aload_n 0, 1) := by decide +kernel
theorem d_Office_reproduce_42 : decode b_Office_reproduce 42 = .ok (.getfield 11, 3) := by decide +kernel
theorem d_Office_reproduce_45 : decode b_Office_reproduce 45 = .ok (.iload_n 3, 1) := by decide +kernel
theorem d_Office_reproduce_46 : decode b_Office_reproduce 46 = .ok (.aaload, 1) := by decide +kernel
theorem d_Office_reproduce_47 : decode b_Office_reproduce 47 = .ok (.sipush 200, 3) := by decide +kernel
theorem d_Office_reproduce_50 : decode b_Office_reproduce 50 = .ok (.aload_n 0, 1) := by decide +kernel
theorem d_Office_reproduce_51 : decode b_Office_reproduce 51 = .ok (.invokevirtual 66, 3) := by decide +kernel
theorem d_Office_reproduce_54 : decode b_Office_reproduce 54 = .ok (.isub, 1) := by decide +kernel
theorem d_Office_reproduce_55 : decode b_Office_reproduce 55 = .ok (.aload_n 0, 1) := by decide +kernel
theorem d_Office_reproduce_56 : decode b_Office_reproduce 56 = .ok (.getfield 28, 3) := by decide +kernel
theorem d_Office_reproduce_59 : decode b_Office_reproduce 59 = .ok (.invokevirtual 154, 3) := by decide +kernel
theorem d_Office_reproduce_62 : decode b_Office_reproduce 62 = .ok (.ireturn, 1) := by decide +kernel
theorem d_Office_reproduce : decode b_Office_reproduce 0 = .ok (.iload_n 1, 1) ∧ decode b_Office_reproduce 1 = .ok (.invokestatic 84, 3) ∧ decode b_Office_reproduce 4 = .ok (.ifCond .eq 11, 3) ∧ decode b_Office_reproduce 7 = .ok (.iload_n 2, 1) ∧ decode b_Office_reproduce 8 = .ok (.iload_n 3, 1) ∧ decode b_Office_reproduce 9 = .ok (.invokestatic 129, 3) ∧ decode b_Office_reproduce 12 = .ok (.ifCond .ne 13, 3) ∧ decode b_Office_reproduce 15 = .ok (.new 109, 3) ∧ decode b_Office_reproduce 18 = .ok (.dup, 1) ∧ decode b_Office_reproduce 19 = .ok (.ldc 152, 2) ∧ decode b_Office_reproduce 21 = .ok (.invokespecial 113, 3) ∧ decode b_Office_reproduce 24 = .ok (.athrow, 1) ∧ decode b_Office_reproduce 25 = .ok (.aload_n 0, 1) ∧ decode b_Office_reproduce 26 = .ok (.getfield 49, 3) ∧ decode b_Office_reproduce 29 = .ok (.aload_n 0, 1) ∧ decode b_Office_reproduce 30 = .ok (.getfield 17, 3) ∧ decode b_Office_reproduce 33 = .ok (.iload_n 1, 1) ∧ decode b_Office_reproduce 34 = .ok (.aaload, 1) ∧ decode b_Office_reproduce 35 = .ok (.aload_n 0, 1) ∧ decode b_Office_reproduce 36 = .ok (.getfield 11, 3) ∧ decode b_Office_reproduce 39 = .ok (.iload_n 2, 1) ∧ decode b_Office_reproduce 40 = .ok (.aaload, 1) ∧ decode b_Office_reproduce 41 = .ok (.aload_n 0, 1) ∧ decode b_Office_reproduce 42 = .ok (.getfield 11, 3) ∧ decode b_Office_reproduce 45 = .ok (.iload_n 3, 1) ∧ decode b_Office_reproduce 46 = .ok (.aaload, 1) ∧ decode b_Office_reproduce 47 = .ok (.sipush 200, 3) ∧ decode b_Office_reproduce 50 = .ok (.aload_n 0, 1) ∧ decode b_Office_reproduce 51 = .ok (.invokevirtual 66, 3) ∧ decode b_Office_reproduce 54 = .ok (.isub, 1) ∧ decode b_Office_reproduce 55 = .ok (.aload_n 0, 1) ∧ decode b_Office_reproduce 56 = .ok (.getfield 28, 3) ∧ decode b_Office_reproduce 59 = .ok (.invokevirtual 154, 3) ∧ decode b_Office_reproduce 62 = .ok (.ireturn, 1) := ⟨d_Office_reproduce_0, d_Office_reproduce_1, d_Office_reproduce_4, d_Office_reproduce_7, d_Office_reproduce_8, d_Office_reproduce_9, d_Office_reproduce_12, d_Office_reproduce_15, d_Office_reproduce_18, d_Office_reproduce_19, d_Office_reproduce_21, d_Office_reproduce_24, d_Office_reproduce_25, d_Office_reproduce_26, d_Office_reproduce_29, d_Office_reproduce_30, d_Office_reproduce_33, d_Office_reproduce_34, d_Office_reproduce_35, d_Office_reproduce_36, d_Office_reproduce_39, d_Office_reproduce_40, d_Office_reproduce_41, d_Office_reproduce_42, d_Office_reproduce_45, d_Office_reproduce_46, d_Office_reproduce_47, d_Office_reproduce_50, d_Office_reproduce_51, d_Office_reproduce_54, d_Office_reproduce_55, d_Office_reproduce_56, d_Office_reproduce_59, d_Office_reproduce_62⟩
theorem v_Office_reproduce : Cond.instanceMethod y_Office_reproduce ∈ nm_Ts ∧ Cond.selects y_Office_reproduce.cls y_Office_reproduce y_Office_reproduce ∈ nm_Ts ∧ Cond.initialized y_Office_reproduce.cls ∈ nm_Ts ∧ Cond.code y_Office_reproduce b_Office_reproduce 4 (some .int) ∈ nm_Ts ∧ mz_cl1 y_Office_reproduce 3 := ⟨nm_t3 52 rfl rfl, nm_t3 53 rfl rfl, nm_t1 1 rfl rfl, nm_t3 54 rfl rfl, by decide +kernel⟩
def y_Reproducer_copyDeck : MethodName := ⟨"CardOffice$Reproducer", "copyDeck", "(LCardOffice$Board;LCardOffice$Deck;LCardOffice$Deck;ILCardOffice$FaultLight;)I"⟩
abbrev b_Reproducer_copyDeck : ByteArray := prog_10_method_2_code
def r_Reproducer_copyDeck (c s : Nat) : Room := { frames := 3, cells := c, slots := s, locals := 66 }
theorem d_Reproducer_copyDeck_0 : decode b_Reproducer_copyDeck 0 = .ok (.iconst 0, 1) := by decide +kernel
theorem d_Reproducer_copyDeck_1 : decode b_Reproducer_copyDeck 1 = .ok (.istore 6, 2) := by decide +kernel
theorem d_Reproducer_copyDeck_3 : decode b_Reproducer_copyDeck 3 = .ok (.iload 6, 2) := by decide +kernel
theorem d_Reproducer_copyDeck_5 : decode b_Reproducer_copyDeck 5 = .ok (.aload_n 2, 1) := by decide +kernel
theorem d_Reproducer_copyDeck_6 : decode b_Reproducer_copyDeck 6 = .ok (.getfield 20, 3) := by decide +kernel
theorem d_Reproducer_copyDeck_9 : decode b_Reproducer_copyDeck 9 = .ok (.if_icmp .ge 66, 3) := by decide +kernel
theorem d_Reproducer_copyDeck_12 : decode b_Reproducer_copyDeck 12 = .ok (.aload_n 1, 1) := by decide +kernel
theorem d_Reproducer_copyDeck_13 : decode b_Reproducer_copyDeck 13 = .ok (.aload_n 2, 1) := by decide +kernel
theorem d_Reproducer_copyDeck_14 : decode b_Reproducer_copyDeck 14 = .ok (.iload 6, 2) := by decide +kernel
theorem d_Reproducer_copyDeck_16 : decode b_Reproducer_copyDeck 16 = .ok (.invokevirtual 26, 3) := by decide +kernel
theorem d_Reproducer_copyDeck_19 : decode b_Reproducer_copyDeck 19 = .ok (.aload_n 0, 1) := by decide +kernel
theorem d_Reproducer_copyDeck_20 : decode b_Reproducer_copyDeck 20 = .ok (.getfield 14, 3) := by decide +kernel
theorem d_Reproducer_copyDeck_23 : decode b_Reproducer_copyDeck 23 = .ok (.invokevirtual 30, 3) := by decide +kernel
theorem d_Reproducer_copyDeck_26 : decode b_Reproducer_copyDeck 26 = .ok (.aload_n 0, 1) := by decide +kernel
theorem d_Reproducer_copyDeck_27 : decode b_Reproducer_copyDeck 27 = .ok (.getfield 14, 3) := by decide +kernel
theorem d_Reproducer_copyDeck_30 : decode b_Reproducer_copyDeck 30 = .ok (.getfield 36, 3) := by decide +kernel
theorem d_Reproducer_copyDeck_33 : decode b_Reproducer_copyDeck 33 = .ok (.ifCond .eq 12, 3) := by decide +kernel
theorem d_Reproducer_copyDeck_36 : decode b_Reproducer_copyDeck 36 = .ok (.aload 5, 2) := by decide +kernel
theorem d_Reproducer_copyDeck_38 : decode b_Reproducer_copyDeck 38 = .ok (.iconst 2, 1) := by decide +kernel
theorem d_Reproducer_copyDeck_39 : decode b_Reproducer_copyDeck 39 = .ok (.iload 6, 2) := by decide +kernel
theorem d_Reproducer_copyDeck_41 : decode b_Reproducer_copyDeck 41 = .ok (.invokevirtual 40, 3) := by decide +kernel
theorem d_Reproducer_copyDeck_44 : decode b_Reproducer_copyDeck 44 = .ok (.ireturn, 1) := by decide +kernel
theorem d_Reproducer_copyDeck_45 : decode b_Reproducer_copyDeck 45 = .ok (.iload 6, 2) := by decide +kernel
theorem d_Reproducer_copyDeck_47 : decode b_Reproducer_copyDeck 47 = .ok (.iload 4, 2) := by decide +kernel
theorem d_Reproducer_copyDeck_49 : decode b_Reproducer_copyDeck 49 = .ok (.if_icmp .lt 12, 3) := by decide +kernel
theorem d_Reproducer_copyDeck_52 : decode b_Reproducer_copyDeck 52 = .ok (.aload 5, 2) := by decide +kernel
theorem d_Reproducer_copyDeck_54 : decode b_Reproducer_copyDeck 54 = .ok (.iconst 4, 1) := by decide +kernel
theorem d_Reproducer_copyDeck_55 : decode b_Reproducer_copyDeck 55 = .ok (.iload 6, 2) := by decide +kernel
theorem d_Reproducer_copyDeck_57 : decode b_Reproducer_copyDeck 57 = .ok (.invokevirtual 40, 3) := by decide +kernel
theorem d_Reproducer_copyDeck_60 : decode b_Reproducer_copyDeck 60 = .ok (.ireturn, 1) := by decide +kernel
theorem d_Reproducer_copyDeck_61 : decode b_Reproducer_copyDeck 61 = .ok (.aload_n 3, 1) := by decide +kernel
theorem d_Reproducer_copyDeck_62 : decode b_Reproducer_copyDeck 62 = .ok (.aload_n 0, 1) := by decide +kernel
theorem d_Reproducer_copyDeck_63 : decode b_Reproducer_copyDeck 63 = .ok (.invokevirtual 46, 3) := by decide +kernel
theorem d_Reproducer_copyDeck_66 : decode b_Reproducer_copyDeck 66 = .ok (.invokevirtual 50, 3) := by decide +kernel
theorem d_Reproducer_copyDeck_69 : decode b_Reproducer_copyDeck 69 = .ok (.iinc 6 1, 3) := by decide +kernel
theorem d_Reproducer_copyDeck_72 : decode b_Reproducer_copyDeck 72 = .ok (.goto (-69), 3) := by decide +kernel
theorem d_Reproducer_copyDeck_75 : decode b_Reproducer_copyDeck 75 = .ok (.aload 5, 2) := by decide +kernel
theorem d_Reproducer_copyDeck_77 : decode b_Reproducer_copyDeck 77 = .ok (.aload_n 2, 1) := by decide +kernel
theorem d_Reproducer_copyDeck_78 : decode b_Reproducer_copyDeck 78 = .ok (.getfield 20, 3) := by decide +kernel
theorem d_Reproducer_copyDeck_81 : decode b_Reproducer_copyDeck 81 = .ok (.invokevirtual 54, 3) := by decide +kernel
theorem d_Reproducer_copyDeck_84 : decode b_Reproducer_copyDeck 84 = .ok (.ireturn, 1) := by decide +kernel
theorem v_Reproducer_copyDeck : Cond.instanceMethod y_Reproducer_copyDeck ∈ nm_Ts ∧ Cond.selects y_Reproducer_copyDeck.cls y_Reproducer_copyDeck y_Reproducer_copyDeck ∈ nm_Ts ∧ Cond.initialized y_Reproducer_copyDeck.cls ∈ nm_Ts ∧ Cond.code y_Reproducer_copyDeck b_Reproducer_copyDeck 7 (some .int) ∈ nm_Ts ∧ mz_cl1 y_Reproducer_copyDeck 5 := ⟨nm_t3 57 rfl rfl, nm_t3 58 rfl rfl, nm_t1 6 rfl rfl, nm_t3 59 rfl rfl, by decide +kernel⟩
def y_Board_bringFromCard : MethodName := ⟨"CardOffice$Board", "bringFromCard", "(LCardOffice$Card;LCardOffice$Jacks;)V"⟩
abbrev b_Board_bringFromCard : ByteArray := prog_2_method_7_code
def r_Board_bringFromCard (c s : Nat) : Room := { frames := 2, cells := c, slots := s, locals := 43 }
theorem d_Board_bringFromCard_0 : decode b_Board_bringFromCard 0 = .ok (.aload_n 2, 1) := by decide +kernel
theorem d_Board_bringFromCard_1 : decode b_Board_bringFromCard 1 = .ok (.invokevirtual 40, 3) := by decide +kernel
theorem d_Board_bringFromCard_4 : decode b_Board_bringFromCard 4 = .ok (.iconst 0, 1) := by decide +kernel
theorem d_Board_bringFromCard_5 : decode b_Board_bringFromCard 5 = .ok (.istore_n 3, 1) := by decide +kernel
theorem d_Board_bringFromCard_6 : decode b_Board_bringFromCard 6 = .ok (.iload_n 3, 1) := by decide +kernel
theorem d_Board_bringFromCard_7 : decode b_Board_bringFromCard 7 = .ok (.aload_n 0, 1) := by decide +kernel
theorem d_Board_bringFromCard_8 : decode b_Board_bringFromCard 8 = .ok (.getfield 27, 3) := by decide +kernel
theorem d_Board_bringFromCard_11 : decode b_Board_bringFromCard 11 = .ok (.if_icmp .ge 46, 3) := by decide +kernel
theorem d_Board_bringFromCard_14 : decode b_Board_bringFromCard 14 = .ok (.aload_n 0, 1) := by decide +kernel
theorem d_Board_bringFromCard_15 : decode b_Board_bringFromCard 15 = .ok (.iload_n 3, 1) := by decide +kernel
theorem d_Board_bringFromCard_16 : decode b_Board_bringFromCard 16 = .ok (.invokevirtual 45, 3) := by decide +kernel
theorem d_Board_bringFromCard_19 : decode b_Board_bringFromCard 19 = .ok (.ifCond .ne 32, 3) := by decide +kernel
theorem d_Board_bringFromCard_22 : decode b_Board_bringFromCard 22 = .ok (.aload_n 2, 1) := by decide +kernel
theorem d_Board_bringFromCard_23 : decode b_Board_bringFromCard 23 = .ok (.aload_n 0, 1) := by decide +kernel
theorem d_Board_bringFromCard_24 : decode b_Board_bringFromCard 24 = .ok (.getfield 15, 3) := by decide +kernel
theorem d_Board_bringFromCard_27 : decode b_Board_bringFromCard 27 = .ok (.iload_n 3, 1) := by decide +kernel
theorem d_Board_bringFromCard_28 : decode b_Board_bringFromCard 28 = .ok (.iaload, 1) := by decide +kernel
theorem d_Board_bringFromCard_29 : decode b_Board_bringFromCard 29 = .ok (.invokevirtual 49, 3) := by decide +kernel
theorem d_Board_bringFromCard_32 : decode b_Board_bringFromCard 32 = .ok (.ifCond .eq 19, 3) := by decide +kernel
theorem d_Board_bringFromCard_35 : decode b_Board_bringFromCard 35 = .ok (.aload_n 2, 1) := by decide +kernel
theorem d_Board_bringFromCard_36 : decode b_Board_bringFromCard 36 = .ok (.aload_n 0, 1) := by decide +kernel
theorem d_Board_bringFromCard_37 : decode b_Board_bringFromCard 37 = .ok (.getfield 15, 3) := by decide +kernel
theorem d_Board_bringFromCard_40 : decode b_Board_bringFromCard 40 = .ok (.iload_n 3, 1) := by decide +kernel
theorem d_Board_bringFromCard_41 : decode b_Board_bringFromCard 41 = .ok (.iaload, 1) := by decide +kernel
theorem d_Board_bringFromCard_42 : decode b_Board_bringFromCard 42 = .ok (.aload_n 0, 1) := by decide +kernel
theorem d_Board_bringFromCard_43 : decode b_Board_bringFromCard 43 = .ok (.iload_n 3, 1) := by decide +kernel
theorem d_Board_bringFromCard_44 : decode b_Board_bringFromCard 44 = .ok (.aload_n 1, 1) := by decide +kernel
theorem d_Board_bringFromCard_45 : decode b_Board_bringFromCard 45 = .ok (.invokevirtual 52, 3) := by decide +kernel
theorem d_Board_bringFromCard_48 : decode b_Board_bringFromCard 48 = .ok (.invokevirtual 56, 3) := by decide +kernel
theorem d_Board_bringFromCard_51 : decode b_Board_bringFromCard 51 = .ok (.iinc 3 1, 3) := by decide +kernel
theorem d_Board_bringFromCard_54 : decode b_Board_bringFromCard 54 = .ok (.goto (-48), 3) := by decide +kernel
theorem d_Board_bringFromCard_57 : decode b_Board_bringFromCard 57 = .ok (.return_, 1) := by decide +kernel
theorem v_Board_bringFromCard : Cond.instanceMethod y_Board_bringFromCard ∈ nm_Ts ∧ Cond.selects y_Board_bringFromCard.cls y_Board_bringFromCard y_Board_bringFromCard ∈ nm_Ts ∧ Cond.initialized y_Board_bringFromCard.cls ∈ nm_Ts ∧ Cond.code y_Board_bringFromCard b_Board_bringFromCard 4 none ∈ nm_Ts ∧ mz_cl1 y_Board_bringFromCard 2 := ⟨nm_t3 62 rfl rfl, nm_t3 63 rfl rfl, nm_t1 10 rfl rfl, nm_t3 64 rfl rfl, by decide +kernel⟩
def y_Jacks_clear : MethodName := ⟨"CardOffice$Jacks", "clear", "()V"⟩
abbrev b_Jacks_clear : ByteArray := prog_7_method_2_code
def r_Jacks_clear (c s : Nat) : Room := { frames := 1, cells := c, slots := s, locals := 23 }
theorem d_Jacks_clear_0 : decode b_Jacks_clear 0 = .ok (.aload_n 0, 1) := by decide +kernel
theorem d_Jacks_clear_1 : decode b_Jacks_clear 1 = .ok (.getfield 15, 3) := by decide +kernel
theorem d_Jacks_clear_4 : decode b_Jacks_clear 4 = .ok (.iconst (-1), 1) := by decide +kernel
theorem d_Jacks_clear_5 : decode b_Jacks_clear 5 = .ok (.invokestatic 19, 3) := by decide +kernel
theorem d_Jacks_clear_8 : decode b_Jacks_clear 8 = .ok (.aload_n 0, 1) := by decide +kernel
theorem d_Jacks_clear_9 : decode b_Jacks_clear 9 = .ok (.iconst 0, 1) := by decide +kernel
theorem d_Jacks_clear_10 : decode b_Jacks_clear 10 = .ok (.putfield 25, 3) := by decide +kernel
theorem d_Jacks_clear_13 : decode b_Jacks_clear 13 = .ok (.return_, 1) := by decide +kernel
theorem v_Jacks_clear : Cond.instanceMethod y_Jacks_clear ∈ nm_Ts ∧ Cond.selects y_Jacks_clear.cls y_Jacks_clear y_Jacks_clear ∈ nm_Ts ∧ Cond.initialized y_Jacks_clear.cls ∈ nm_Ts ∧ Cond.code y_Jacks_clear b_Jacks_clear 1 none ∈ nm_Ts ∧ mz_cl1 y_Jacks_clear 0 := ⟨nm_t3 66 rfl rfl, nm_t3 67 rfl rfl, nm_t1 7 rfl rfl, nm_t3 68 rfl rfl, by decide +kernel⟩
def y_Board_isFromExit : MethodName := ⟨"CardOffice$Board", "isFromExit", "(I)Z"⟩
abbrev b_Board_isFromExit : ByteArray := prog_2_method_5_code
def r_Board_isFromExit (c s : Nat) : Room := { frames := 0, cells := c, slots := s, locals := 0 }
theorem d_Board_isFromExit_0 : decode b_Board_isFromExit 0 = .ok (.aload_n 0, 1) := by decide +kernel
theorem d_Board_isFromExit_1 : decode b_Board_isFromExit 1 = .ok (.getfield 9, 3) := by decide +kernel
theorem d_Board_isFromExit_4 : decode b_Board_isFromExit 4 = .ok (.iload_n 1, 1) := by decide +kernel
theorem d_Board_isFromExit_5 : decode b_Board_isFromExit 5 = .ok (.iaload, 1) := by decide +kernel
theorem d_Board_isFromExit_6 : decode b_Board_isFromExit 6 = .ok (.bipush 32, 2) := by decide +kernel
theorem d_Board_isFromExit_8 : decode b_Board_isFromExit 8 = .ok (.if_icmp .lt 7, 3) := by decide +kernel
theorem d_Board_isFromExit_11 : decode b_Board_isFromExit 11 = .ok (.iconst 1, 1) := by decide +kernel
theorem d_Board_isFromExit_12 : decode b_Board_isFromExit 12 = .ok (.goto 4, 3) := by decide +kernel
theorem d_Board_isFromExit_15 : decode b_Board_isFromExit 15 = .ok (.iconst 0, 1) := by decide +kernel
theorem d_Board_isFromExit_16 : decode b_Board_isFromExit 16 = .ok (.ireturn, 1) := by decide +kernel
theorem v_Board_isFromExit : Cond.instanceMethod y_Board_isFromExit ∈ nm_Ts ∧ Cond.selects y_Board_isFromExit.cls y_Board_isFromExit y_Board_isFromExit ∈ nm_Ts ∧ Cond.initialized y_Board_isFromExit.cls ∈ nm_Ts ∧ Cond.code y_Board_isFromExit b_Board_isFromExit 2 (some .boolean) ∈ nm_Ts ∧ mz_cl1 y_Board_isFromExit 1 := ⟨nm_t3 72 rfl rfl, nm_s 6 rfl rfl, nm_t1 10 rfl rfl, nm_t3 73 rfl rfl, by decide +kernel⟩
def y_Jacks_hasJack : MethodName := ⟨"CardOffice$Jacks", "hasJack", "(I)Z"⟩
abbrev b_Jacks_hasJack : ByteArray := prog_7_method_3_code
def r_Jacks_hasJack (c s : Nat) : Room := { frames := 0, cells := c, slots := s, locals := 0 }
theorem d_Jacks_hasJack_0 : decode b_Jacks_hasJack 0 = .ok (.iload_n 1, 1) := by decide +kernel
theorem d_Jacks_hasJack_1 : decode b_Jacks_hasJack 1 = .ok (.aload_n 0, 1) := by decide +kernel
theorem d_Jacks_hasJack_2 : decode b_Jacks_hasJack 2 = .ok (.getfield 9, 3) := by decide +kernel
theorem d_Jacks_hasJack_5 : decode b_Jacks_hasJack 5 = .ok (.if_icmp .lt 21, 3) := by decide +kernel
theorem d_Jacks_hasJack_8 : decode b_Jacks_hasJack 8 = .ok (.iload_n 1, 1) := by decide +kernel
theorem d_Jacks_hasJack_9 : decode b_Jacks_hasJack 9 = .ok (.aload_n 0, 1) := by decide +kernel
theorem d_Jacks_hasJack_10 : decode b_Jacks_hasJack 10 = .ok (.getfield 9, 3) := by decide +kernel
theorem d_Jacks_hasJack_13 : decode b_Jacks_hasJack 13 = .ok (.aload_n 0, 1) := by decide +kernel
theorem d_Jacks_hasJack_14 : decode b_Jacks_hasJack 14 = .ok (.getfield 15, 3) := by decide +kernel
theorem d_Jacks_hasJack_17 : decode b_Jacks_hasJack 17 = .ok (.arraylength, 1) := by decide +kernel
theorem d_Jacks_hasJack_18 : decode b_Jacks_hasJack 18 = .ok (.iadd, 1) := by decide +kernel
theorem d_Jacks_hasJack_19 : decode b_Jacks_hasJack 19 = .ok (.if_icmp .ge 7, 3) := by decide +kernel
theorem d_Jacks_hasJack_22 : decode b_Jacks_hasJack 22 = .ok (.iconst 1, 1) := by decide +kernel
theorem d_Jacks_hasJack_23 : decode b_Jacks_hasJack 23 = .ok (.goto 4, 3) := by decide +kernel
theorem d_Jacks_hasJack_26 : decode b_Jacks_hasJack 26 = .ok (.iconst 0, 1) := by decide +kernel
theorem d_Jacks_hasJack_27 : decode b_Jacks_hasJack 27 = .ok (.ireturn, 1) := by decide +kernel
theorem v_Jacks_hasJack : Cond.instanceMethod y_Jacks_hasJack ∈ nm_Ts ∧ Cond.selects y_Jacks_hasJack.cls y_Jacks_hasJack y_Jacks_hasJack ∈ nm_Ts ∧ Cond.initialized y_Jacks_hasJack.cls ∈ nm_Ts ∧ Cond.code y_Jacks_hasJack b_Jacks_hasJack 2 (some .boolean) ∈ nm_Ts ∧ mz_cl1 y_Jacks_hasJack 1 := ⟨nm_t3 75 rfl rfl, nm_t3 76 rfl rfl, nm_t1 7 rfl rfl, nm_t3 77 rfl rfl, by decide +kernel⟩
def y_Board_signFrom : MethodName := ⟨"CardOffice$Board", "signFrom", "(ILCardOffice$Card;)I"⟩
abbrev b_Board_signFrom : ByteArray := prog_2_method_6_code
def r_Board_signFrom (c s : Nat) : Room := { frames := 0, cells := c, slots := s, locals := 0 }
theorem d_Board_signFrom_0 : decode b_Board_signFrom 0 = .ok (.aload_n 0, 1) := by decide +kernel
theorem d_Board_signFrom_1 : decode b_Board_signFrom 1 = .ok (.getfield 9, 3) := by decide +kernel
theorem d_Board_signFrom_4 : decode b_Board_signFrom 4 = .ok (.iload_n 1, 1) := by decide +kernel
theorem d_Board_signFrom_5 : decode b_Board_signFrom 5 = .ok (.iaload, 1) := by decide +kernel
theorem d_Board_signFrom_6 : decode b_Board_signFrom 6 = .ok (.bipush 16, 2) := by decide +kernel
theorem d_Board_signFrom_8 : decode b_Board_signFrom 8 = .ok (.if_icmp .ge 17, 3) := by decide +kernel
theorem d_Board_signFrom_11 : decode b_Board_signFrom 11 = .ok (.aload_n 2, 1) := by decide +kernel
theorem d_Board_signFrom_12 : decode b_Board_signFrom 12 = .ok (.getfield 35, 3) := by decide +kernel
theorem d_Board_signFrom_15 : decode b_Board_signFrom 15 = .ok (.aload_n 0, 1) := by decide +kernel
theorem d_Board_signFrom_16 : decode b_Board_signFrom 16 = .ok (.getfield 9, 3) := by decide +kernel
theorem d_Board_signFrom_19 : decode b_Board_signFrom 19 = .ok (.iload_n 1, 1) := by decide +kernel
theorem d_Board_signFrom_20 : decode b_Board_signFrom 20 = .ok (.iaload, 1) := by decide +kernel
theorem d_Board_signFrom_21 : decode b_Board_signFrom 21 = .ok (.iaload, 1) := by decide +kernel
theorem d_Board_signFrom_22 : decode b_Board_signFrom 22 = .ok (.goto 15, 3) := by decide +kernel
theorem d_Board_signFrom_25 : decode b_Board_signFrom 25 = .ok (.bipush 48, 2) := by decide +kernel
theorem d_Board_signFrom_27 : decode b_Board_signFrom 27 = .ok (.aload_n 0, 1) := by decide +kernel
theorem d_Board_signFrom_28 : decode b_Board_signFrom 28 = .ok (.getfield 9, 3) := by decide +kernel
theorem d_Board_signFrom_31 : decode b_Board_signFrom 31 = .ok (.iload_n 1, 1) := by decide +kernel
theorem d_Board_signFrom_32 : decode b_Board_signFrom 32 = .ok (.iaload, 1) := by decide +kernel
theorem d_Board_signFrom_33 : decode b_Board_signFrom 33 = .ok (.iadd, 1) := by decide +kernel
theorem d_Board_signFrom_34 : decode b_Board_signFrom 34 = .ok (.bipush 16, 2) := by decide +kernel
theorem d_Board_signFrom_36 : decode b_Board_signFrom 36 = .ok (.isub, 1) := by decide +kernel
theorem d_Board_signFrom_37 : decode b_Board_signFrom 37 = .ok (.ireturn, 1) := by decide +kernel
theorem d_Board_signFrom : decode b_Board_signFrom 0 = .ok (.aload_n 0, 1) ∧ decode b_Board_signFrom 1 = .ok (.getfield 9, 3) ∧ decode b_Board_signFrom 4 = .ok (.iload_n 1, 1) ∧ decode b_Board_signFrom 5 = .ok (.iaload, 1) ∧ decode b_Board_signFrom 6 = .ok (.bipush 16, 2) ∧ decode b_Board_signFrom 8 = .ok (.if_icmp .ge 17, 3) ∧ decode b_Board_signFrom 11 = .ok (.aload_n 2, 1) ∧ decode b_Board_signFrom 12 = .ok (.getfield 35, 3) ∧ decode b_Board_signFrom 15 = .ok (.aload_n 0, 1) ∧ decode b_Board_signFrom 16 = .ok (.getfield 9, 3) ∧ decode b_Board_signFrom 19 = .ok (.iload_n 1, 1) ∧ decode b_Board_signFrom 20 = .ok (.iaload, 1) ∧ decode b_Board_signFrom 21 = .ok (.iaload, 1) ∧ decode b_Board_signFrom 22 = .ok (.goto 15, 3) ∧ decode b_Board_signFrom 25 = .ok (.bipush 48, 2) ∧ decode b_Board_signFrom 27 = .ok (.aload_n 0, 1) ∧ decode b_Board_signFrom 28 = .ok (.getfield 9, 3) ∧ decode b_Board_signFrom 31 = .ok (.iload_n 1, 1) ∧ decode b_Board_signFrom 32 = .ok (.iaload, 1) ∧ decode b_Board_signFrom 33 = .ok (.iadd, 1) ∧ decode b_Board_signFrom 34 = .ok (.bipush 16, 2) ∧ decode b_Board_signFrom 36 = .ok (.isub, 1) ∧ decode b_Board_signFrom 37 = .ok (.ireturn, 1) := ⟨d_Board_signFrom_0, d_Board_signFrom_1, d_Board_signFrom_4, d_Board_signFrom_5, d_Board_signFrom_6, d_Board_signFrom_8, d_Board_signFrom_11, d_Board_signFrom_12, d_Board_signFrom_15, d_Board_signFrom_16, d_Board_signFrom_19, d_Board_signFrom_20, d_Board_signFrom_21, d_Board_signFrom_22, d_Board_signFrom_25, d_Board_signFrom_27, d_Board_signFrom_28, d_Board_signFrom_31, d_Board_signFrom_32, d_Board_signFrom_33, d_Board_signFrom_34, d_Board_signFrom_36, d_Board_signFrom_37⟩
theorem v_Board_signFrom : Cond.instanceMethod y_Board_signFrom ∈ nm_Ts ∧ Cond.selects y_Board_signFrom.cls y_Board_signFrom y_Board_signFrom ∈ nm_Ts ∧ Cond.initialized y_Board_signFrom.cls ∈ nm_Ts ∧ Cond.code y_Board_signFrom b_Board_signFrom 3 (some .int) ∈ nm_Ts ∧ mz_cl1 y_Board_signFrom 2 := ⟨nm_t3 80 rfl rfl, nm_s 7 rfl rfl, nm_t1 10 rfl rfl, nm_t3 81 rfl rfl, by decide +kernel⟩
def y_Jacks_bring : MethodName := ⟨"CardOffice$Jacks", "bring", "(II)V"⟩
abbrev b_Jacks_bring : ByteArray := prog_7_method_4_code
def r_Jacks_bring (c s : Nat) : Room := { frames := 0, cells := c, slots := s, locals := 0 }
theorem d_Jacks_bring_0 : decode b_Jacks_bring 0 = .ok (.iload_n 1, 1) := by decide +kernel
theorem d_Jacks_bring_1 : decode b_Jacks_bring 1 = .ok (.aload_n 0, 1) := by decide +kernel
theorem d_Jacks_bring_2 : decode b_Jacks_bring 2 = .ok (.getfield 9, 3) := by decide +kernel
theorem d_Jacks_bring_5 : decode b_Jacks_bring 5 = .ok (.isub, 1) := by decide +kernel
theorem d_Jacks_bring_6 : decode b_Jacks_bring 6 = .ok (.istore_n 3, 1) := by decide +kernel
theorem d_Jacks_bring_7 : decode b_Jacks_bring 7 = .ok (.aload_n 0, 1) := by decide +kernel
theorem d_Jacks_bring_8 : decode b_Jacks_bring 8 = .ok (.getfield 15, 3) := by decide +kernel
theorem d_Jacks_bring_11 : decode b_Jacks_bring 11 = .ok (.iload_n 3, 1) := by decide +kernel
theorem d_Jacks_bring_12 : decode b_Jacks_bring 12 = .ok (.iaload, 1) := by decide +kernel
theorem d_Jacks_bring_13 : decode b_Jacks_bring 13 = .ok (.iconst (-1), 1) := by decide +kernel
theorem d_Jacks_bring_14 : decode b_Jacks_bring 14 = .ok (.if_icmp .eq 18, 3) := by decide +kernel
theorem d_Jacks_bring_17 : decode b_Jacks_bring 17 = .ok (.aload_n 0, 1) := by decide +kernel
theorem d_Jacks_bring_18 : decode b_Jacks_bring 18 = .ok (.getfield 15, 3) := by decide +kernel
theorem d_Jacks_bring_21 : decode b_Jacks_bring 21 = .ok (.iload_n 3, 1) := by decide +kernel
theorem d_Jacks_bring_22 : decode b_Jacks_bring 22 = .ok (.iaload, 1) := by decide +kernel
theorem d_Jacks_bring_23 : decode b_Jacks_bring 23 = .ok (.iload_n 2, 1) := by decide +kernel
theorem d_Jacks_bring_24 : decode b_Jacks_bring 24 = .ok (.if_icmp .eq 8, 3) := by decide +kernel
theorem d_Jacks_bring_27 : decode b_Jacks_bring 27 = .ok (.aload_n 0, 1) := by decide +kernel
theorem d_Jacks_bring_28 : decode b_Jacks_bring 28 = .ok (.iconst 1, 1) := by decide +kernel
theorem d_Jacks_bring_29 : decode b_Jacks_bring 29 = .ok (.putfield 25, 3) := by decide +kernel
theorem d_Jacks_bring_32 : decode b_Jacks_bring 32 = .ok (.aload_n 0, 1) := by decide +kernel
theorem d_Jacks_bring_33 : decode b_Jacks_bring 33 = .ok (.getfield 15, 3) := by decide +kernel
theorem d_Jacks_bring_36 : decode b_Jacks_bring 36 = .ok (.iload_n 3, 1) := by decide +kernel
theorem d_Jacks_bring_37 : decode b_Jacks_bring 37 = .ok (.iload_n 2, 1) := by decide +kernel
theorem d_Jacks_bring_38 : decode b_Jacks_bring 38 = .ok (.iastore, 1) := by decide +kernel
theorem d_Jacks_bring_39 : decode b_Jacks_bring 39 = .ok (.return_, 1) := by decide +kernel
theorem v_Jacks_bring : Cond.instanceMethod y_Jacks_bring ∈ nm_Ts ∧ Cond.selects y_Jacks_bring.cls y_Jacks_bring y_Jacks_bring ∈ nm_Ts ∧ Cond.initialized y_Jacks_bring.cls ∈ nm_Ts ∧ Cond.code y_Jacks_bring b_Jacks_bring 4 none ∈ nm_Ts ∧ mz_cl1 y_Jacks_bring 2 := ⟨nm_t3 83 rfl rfl, nm_t3 84 rfl rfl, nm_t1 7 rfl rfl, nm_t3 85 rfl rfl, by decide +kernel⟩
def y_FaultLight_stopAt : MethodName := ⟨"CardOffice$FaultLight", "stopAt", "(II)I"⟩
abbrev b_FaultLight_stopAt : ByteArray := prog_6_method_2_code
def r_FaultLight_stopAt (c s : Nat) : Room := { frames := 0, cells := c, slots := s, locals := 0 }
theorem d_FaultLight_stopAt_0 : decode b_FaultLight_stopAt 0 = .ok (.aload_n 0, 1) := by decide +kernel
theorem d_FaultLight_stopAt_1 : decode b_FaultLight_stopAt 1 = .ok (.iload_n 1, 1) := by decide +kernel
theorem d_FaultLight_stopAt_2 : decode b_FaultLight_stopAt 2 = .ok (.putfield 9, 3) := by decide +kernel
theorem d_FaultLight_stopAt_5 : decode b_FaultLight_stopAt 5 = .ok (.aload_n 0, 1) := by decide +kernel
theorem d_FaultLight_stopAt_6 : decode b_FaultLight_stopAt 6 = .ok (.iload_n 2, 1) := by decide +kernel
theorem d_FaultLight_stopAt_7 : decode b_FaultLight_stopAt 7 = .ok (.putfield 15, 3) := by decide +kernel
theorem d_FaultLight_stopAt_10 : decode b_FaultLight_stopAt 10 = .ok (.iload_n 2, 1) := by decide +kernel
theorem d_FaultLight_stopAt_11 : decode b_FaultLight_stopAt 11 = .ok (.ireturn, 1) := by decide +kernel
theorem v_FaultLight_stopAt : Cond.instanceMethod y_FaultLight_stopAt ∈ nm_Ts ∧ Cond.selects y_FaultLight_stopAt.cls y_FaultLight_stopAt y_FaultLight_stopAt ∈ nm_Ts ∧ Cond.initialized y_FaultLight_stopAt.cls ∈ nm_Ts ∧ Cond.code y_FaultLight_stopAt b_FaultLight_stopAt 3 (some .int) ∈ nm_Ts ∧ mz_cl1 y_FaultLight_stopAt 2 := ⟨nm_t3 87 rfl rfl, nm_t3 88 rfl rfl, nm_t1 2 rfl rfl, nm_t3 89 rfl rfl, by decide +kernel⟩
def y_Reproducer_newCard : MethodName := ⟨"CardOffice$Reproducer", "newCard", "()LCardOffice$Card;"⟩
abbrev b_Reproducer_newCard : ByteArray := prog_10_method_4_code
def r_Reproducer_newCard (c s : Nat) : Room := { frames := 2, cells := c, slots := s, locals := 34 }
theorem d_Reproducer_newCard_0 : decode b_Reproducer_newCard 0 = .ok (.new 59, 3) := by decide +kernel
theorem d_Reproducer_newCard_3 : decode b_Reproducer_newCard 3 = .ok (.dup, 1) := by decide +kernel
theorem d_Reproducer_newCard_4 : decode b_Reproducer_newCard 4 = .ok (.invokespecial 74, 3) := by decide +kernel
theorem d_Reproducer_newCard_7 : decode b_Reproducer_newCard 7 = .ok (.astore_n 1, 1) := by decide +kernel
theorem d_Reproducer_newCard_8 : decode b_Reproducer_newCard 8 = .ok (.iconst 0, 1) := by decide +kernel
theorem d_Reproducer_newCard_9 : decode b_Reproducer_newCard 9 = .ok (.istore_n 2, 1) := by decide +kernel
theorem d_Reproducer_newCard_10 : decode b_Reproducer_newCard 10 = .ok (.iload_n 2, 1) := by decide +kernel
theorem d_Reproducer_newCard_11 : decode b_Reproducer_newCard 11 = .ok (.bipush 16, 2) := by decide +kernel
theorem d_Reproducer_newCard_13 : decode b_Reproducer_newCard 13 = .ok (.if_icmp .ge 23, 3) := by decide +kernel
theorem d_Reproducer_newCard_16 : decode b_Reproducer_newCard 16 = .ok (.aload_n 1, 1) := by decide +kernel
theorem d_Reproducer_newCard_17 : decode b_Reproducer_newCard 17 = .ok (.getfield 58, 3) := by decide +kernel
theorem d_Reproducer_newCard_20 : decode b_Reproducer_newCard 20 = .ok (.iload_n 2, 1) := by decide +kernel
theorem d_Reproducer_newCard_21 : decode b_Reproducer_newCard 21 = .ok (.aload_n 0, 1) := by decide +kernel
theorem d_Reproducer_newCard_22 : decode b_Reproducer_newCard 22 = .ok (.getfield 14, 3) := by decide +kernel
theorem d_Reproducer_newCard_25 : decode b_Reproducer_newCard 25 = .ok (.iload_n 2, 1) := by decide +kernel
theorem d_Reproducer_newCard_26 : decode b_Reproducer_newCard 26 = .ok (.invokevirtual 75, 3) := by decide +kernel
theorem d_Reproducer_newCard_29 : decode b_Reproducer_newCard 29 = .ok (.iastore, 1) := by decide +kernel
theorem d_Reproducer_newCard_30 : decode b_Reproducer_newCard 30 = .ok (.iinc 2 1, 3) := by decide +kernel
theorem d_Reproducer_newCard_33 : decode b_Reproducer_newCard 33 = .ok (.goto (-23), 3) := by decide +kernel
theorem d_Reproducer_newCard_36 : decode b_Reproducer_newCard 36 = .ok (.aload_n 1, 1) := by decide +kernel
theorem d_Reproducer_newCard_37 : decode b_Reproducer_newCard 37 = .ok (.areturn, 1) := by decide +kernel
theorem d_Reproducer_newCard : decode b_Reproducer_newCard 0 = .ok (.new 59, 3) ∧ decode b_Reproducer_newCard 3 = .ok (.dup, 1) ∧ decode b_Reproducer_newCard 4 = .ok (.invokespecial 74, 3) ∧ decode b_Reproducer_newCard 7 = .ok (.astore_n 1, 1) ∧ decode b_Reproducer_newCard 8 = .ok (.iconst 0, 1) ∧ decode b_Reproducer_newCard 9 = .ok (.istore_n 2, 1) ∧ decode b_Reproducer_newCard 10 = .ok (.iload_n 2, 1) ∧ decode b_Reproducer_newCard 11 = .ok (.bipush 16, 2) ∧ decode b_Reproducer_newCard 13 = .ok (.if_icmp .ge 23, 3) ∧ decode b_Reproducer_newCard 16 = .ok (.aload_n 1, 1) ∧ decode b_Reproducer_newCard 17 = .ok (.getfield 58, 3) ∧ decode b_Reproducer_newCard 20 = .ok (.iload_n 2, 1) ∧ decode b_Reproducer_newCard 21 = .ok (.aload_n 0, 1) ∧ decode b_Reproducer_newCard 22 = .ok (.getfield 14, 3) ∧ decode b_Reproducer_newCard 25 = .ok (.iload_n 2, 1) ∧ decode b_Reproducer_newCard 26 = .ok (.invokevirtual 75, 3) ∧ decode b_Reproducer_newCard 29 = .ok (.iastore, 1) ∧ decode b_Reproducer_newCard 30 = .ok (.iinc 2 1, 3) ∧ decode b_Reproducer_newCard 33 = .ok (.goto (-23), 3) ∧ decode b_Reproducer_newCard 36 = .ok (.aload_n 1, 1) ∧ decode b_Reproducer_newCard 37 = .ok (.areturn, 1) := ⟨d_Reproducer_newCard_0, d_Reproducer_newCard_3, d_Reproducer_newCard_4, d_Reproducer_newCard_7, d_Reproducer_newCard_8, d_Reproducer_newCard_9, d_Reproducer_newCard_10, d_Reproducer_newCard_11, d_Reproducer_newCard_13, d_Reproducer_newCard_16, d_Reproducer_newCard_17, d_Reproducer_newCard_20, d_Reproducer_newCard_21, d_Reproducer_newCard_22, d_Reproducer_newCard_25, d_Reproducer_newCard_26, d_Reproducer_newCard_29, d_Reproducer_newCard_30, d_Reproducer_newCard_33, d_Reproducer_newCard_36, d_Reproducer_newCard_37⟩
theorem v_Reproducer_newCard : Cond.instanceMethod y_Reproducer_newCard ∈ nm_Ts ∧ Cond.selects y_Reproducer_newCard.cls y_Reproducer_newCard y_Reproducer_newCard ∈ nm_Ts ∧ Cond.initialized y_Reproducer_newCard.cls ∈ nm_Ts ∧ Cond.code y_Reproducer_newCard b_Reproducer_newCard 3 (some (.object "CardOffice$Card")) ∈ nm_Ts ∧ mz_cl1 y_Reproducer_newCard 0 := ⟨nm_t3 92 rfl rfl, nm_s 8 rfl rfl, nm_t1 6 rfl rfl, nm_t3 93 rfl rfl, by decide +kernel⟩
def y_Jacks_signOrBlank : MethodName := ⟨"CardOffice$Jacks", "signOrBlank", "(I)I"⟩
abbrev b_Jacks_signOrBlank : ByteArray := prog_7_method_5_code
def r_Jacks_signOrBlank (c s : Nat) : Room := { frames := 0, cells := c, slots := s, locals := 0 }
theorem d_Jacks_signOrBlank_0 : decode b_Jacks_signOrBlank 0 = .ok (.aload_n 0, 1) := by decide +kernel
theorem d_Jacks_signOrBlank_1 : decode b_Jacks_signOrBlank 1 = .ok (.getfield 15, 3) := by decide +kernel
theorem d_Jacks_signOrBlank_4 : decode b_Jacks_signOrBlank 4 = .ok (.iload_n 1, 1) := by decide +kernel
theorem d_Jacks_signOrBlank_5 : decode b_Jacks_signOrBlank 5 = .ok (.iaload, 1) := by decide +kernel
theorem d_Jacks_signOrBlank_6 : decode b_Jacks_signOrBlank 6 = .ok (.iconst (-1), 1) := by decide +kernel
theorem d_Jacks_signOrBlank_7 : decode b_Jacks_signOrBlank 7 = .ok (.if_icmp .ne 8, 3) := by decide +kernel
theorem d_Jacks_signOrBlank_10 : decode b_Jacks_signOrBlank 10 = .ok (.bipush 32, 2) := by decide +kernel
theorem d_Jacks_signOrBlank_12 : decode b_Jacks_signOrBlank 12 = .ok (.goto 9, 3) := by decide +kernel
theorem d_Jacks_signOrBlank_15 : decode b_Jacks_signOrBlank 15 = .ok (.aload_n 0, 1) := by decide +kernel
theorem d_Jacks_signOrBlank_16 : decode b_Jacks_signOrBlank 16 = .ok (.getfield 15, 3) := by decide +kernel
theorem d_Jacks_signOrBlank_19 : decode b_Jacks_signOrBlank 19 = .ok (.iload_n 1, 1) := by decide +kernel
theorem d_Jacks_signOrBlank_20 : decode b_Jacks_signOrBlank 20 = .ok (.iaload, 1) := by decide +kernel
theorem d_Jacks_signOrBlank_21 : decode b_Jacks_signOrBlank 21 = .ok (.ireturn, 1) := by decide +kernel
theorem v_Jacks_signOrBlank : Cond.instanceMethod y_Jacks_signOrBlank ∈ nm_Ts ∧ Cond.selects y_Jacks_signOrBlank.cls y_Jacks_signOrBlank y_Jacks_signOrBlank ∈ nm_Ts ∧ Cond.initialized y_Jacks_signOrBlank.cls ∈ nm_Ts ∧ Cond.code y_Jacks_signOrBlank b_Jacks_signOrBlank 2 (some .int) ∈ nm_Ts ∧ mz_cl1 y_Jacks_signOrBlank 1 := ⟨nm_t3 97 rfl rfl, nm_t3 98 rfl rfl, nm_t1 7 rfl rfl, nm_t3 99 rfl rfl, by decide +kernel⟩
def y_FaultLight_allDone : MethodName := ⟨"CardOffice$FaultLight", "allDone", "(I)I"⟩
abbrev b_FaultLight_allDone : ByteArray := prog_6_method_3_code
def r_FaultLight_allDone (c s : Nat) : Room := { frames := 0, cells := c, slots := s, locals := 0 }
theorem d_FaultLight_allDone_0 : decode b_FaultLight_allDone 0 = .ok (.aload_n 0, 1) := by decide +kernel
theorem d_FaultLight_allDone_1 : decode b_FaultLight_allDone 1 = .ok (.iconst 0, 1) := by decide +kernel
theorem d_FaultLight_allDone_2 : decode b_FaultLight_allDone 2 = .ok (.putfield 9, 3) := by decide +kernel
theorem d_FaultLight_allDone_5 : decode b_FaultLight_allDone 5 = .ok (.aload_n 0, 1) := by decide +kernel
theorem d_FaultLight_allDone_6 : decode b_FaultLight_allDone 6 = .ok (.iconst (-1), 1) := by decide +kernel
theorem d_FaultLight_allDone_7 : decode b_FaultLight_allDone 7 = .ok (.putfield 15, 3) := by decide +kernel
theorem d_FaultLight_allDone_10 : decode b_FaultLight_allDone 10 = .ok (.iload_n 1, 1) := by decide +kernel
theorem d_FaultLight_allDone_11 : decode b_FaultLight_allDone 11 = .ok (.ireturn, 1) := by decide +kernel
theorem v_FaultLight_allDone : Cond.instanceMethod y_FaultLight_allDone ∈ nm_Ts ∧ Cond.selects y_FaultLight_allDone.cls y_FaultLight_allDone y_FaultLight_allDone ∈ nm_Ts ∧ Cond.initialized y_FaultLight_allDone.cls ∈ nm_Ts ∧ Cond.code y_FaultLight_allDone b_FaultLight_allDone 2 (some .int) ∈ nm_Ts ∧ mz_cl1 y_FaultLight_allDone 1 := ⟨nm_t3 102 rfl rfl, nm_t3 103 rfl rfl, nm_t1 2 rfl rfl, nm_t3 104 rfl rfl, by decide +kernel⟩
def y_Office_gang : MethodName := ⟨"CardOffice", "gang", "(III)I"⟩
abbrev b_Office_gang : ByteArray := prog_1_method_11_code
def r_Office_gang (c s : Nat) : Room := { frames := 7, cells := c, slots := s, locals := 93 }
theorem d_Office_gang_0 : decode b_Office_gang 0 = .ok (.iload_n 1, 1) := by decide +kernel
theorem d_Office_gang_1 : decode b_Office_gang 1 = .ok (.invokestatic 84, 3) := by decide +kernel
theorem d_Office_gang_4 : decode b_Office_gang 4 = .ok (.ifCond .eq 17, 3) := by decide +kernel
theorem d_Office_gang_7 : decode b_Office_gang 7 = .ok (.iload_n 2, 1) := by decide +kernel
theorem d_Office_gang_8 : decode b_Office_gang 8 = .ok (.invokestatic 62, 3) := by decide +kernel
theorem d_Office_gang_11 : decode b_Office_gang 11 = .ok (.ifCond .eq 10, 3) := by decide +kernel
theorem d_Office_gang_14 : decode b_Office_gang 14 = .ok (.iload_n 3, 1) := by decide +kernel
theorem d_Office_gang_15 : decode b_Office_gang 15 = .ok (.invokestatic 106, 3) := by decide +kernel
theorem d_Office_gang_18 : decode b_Office_gang 18 = .ok (.ifCond .ne 13, 3) := by decide +kernel
theorem d_Office_gang_21 : decode b_Office_gang 21 = .ok (.new 109, 3) := by decide +kernel
theorem d_Office_gang_24 : decode b_Office_gang 24 = .ok (.dup, 1) := by decide +kernel
theorem d_Office_gang_25 : decode b_Office_gang 25 = .ok (.ldc 158, 2) := by decide +kernel
theorem d_Office_gang_27 : decode b_Office_gang 27 = .ok (.invokespecial 113, 3) := by decide +kernel
theorem d_Office_gang_30 : decode b_Office_gang 30 = .ok (.athrow, 1) := by decide +kernel
theorem d_Office_gang_31 : decode b_Office_gang 31 = .ok (.aload_n 0, 1) := by decide +kernel
theorem d_Office_gang_32 : decode b_Office_gang 32 = .ok (.getfield 49, 3) := by decide +kernel
theorem d_Office_gang_35 : decode b_Office_gang 35 = .ok (.aload_n 0, 1) := by decide +kernel
theorem d_Office_gang_36 : decode b_Office_gang 36 = .ok (.getfield 17, 3) := by decide +kernel
theorem d_Office_gang_39 : decode b_Office_gang 39 = .ok (.iload_n 1, 1) := by decide +kernel
theorem d_Office_gang_40 : decode b_Office_gang 40 = .ok (.aaload, 1) := by decide +kernel
theorem d_Office_gang_41 : decode b_Office_gang 41 = .ok (.aload_n 0, 1) := by decide +kernel
theorem d_Office_gang_42 : decode b_Office_gang 42 = .ok (.getfield 11, 3) := by decide +kernel
theorem d_Office_gang_45 : decode b_Office_gang 45 = .ok (.iload_n 2, 1) := by decide +kernel
theorem d_Office_gang_46 : decode b_Office_gang 46 = .ok (.aaload, 1) := by decide +kernel
theorem d_Office_gang_47 : decode b_Office_gang 47 = .ok (.iload_n 3, 1) := by decide +kernel
theorem d_Office_gang_48 : decode b_Office_gang 48 = .ok (.aload_n 0, 1) := by decide +kernel
theorem d_Office_gang_49 : decode b_Office_gang 49 = .ok (.getfield 28, 3) := by decide +kernel
theorem d_Office_gang_52 : decode b_Office_gang 52 = .ok (.invokevirtual 160, 3) := by decide +kernel
theorem d_Office_gang_55 : decode b_Office_gang 55 = .ok (.ireturn, 1) := by decide +kernel
theorem d_Office_gang : decode b_Office_gang 0 = .ok (.iload_n 1, 1) ∧ decode b_Office_gang 1 = .ok (.invokestatic 84, 3) ∧ decode b_Office_gang 4 = .ok (.ifCond .eq 17, 3) ∧ decode b_Office_gang 7 = .ok (.iload_n 2, 1) ∧ decode b_Office_gang 8 = .ok (.invokestatic 62, 3) ∧ decode b_Office_gang 11 = .ok (.ifCond .eq 10, 3) ∧ decode b_Office_gang 14 = .ok (.iload_n 3, 1) ∧ decode b_Office_gang 15 = .ok (.invokestatic 106, 3) ∧ decode b_Office_gang 18 = .ok (.ifCond .ne 13, 3) ∧ decode b_Office_gang 21 = .ok (.new 109, 3) ∧ decode b_Office_gang 24 = .ok (.dup, 1) ∧ decode b_Office_gang 25 = .ok (.ldc 158, 2) ∧ decode b_Office_gang 27 = .ok (.invokespecial 113, 3) ∧ decode b_Office_gang 30 = .ok (.athrow, 1) ∧ decode b_Office_gang 31 = .ok (.aload_n 0, 1) ∧ decode b_Office_gang 32 = .ok (.getfield 49, 3) ∧ decode b_Office_gang 35 = .ok (.aload_n 0, 1) ∧ decode b_Office_gang 36 = .ok (.getfield 17, 3) ∧ decode b_Office_gang 39 = .ok (.iload_n 1, 1) ∧ decode b_Office_gang 40 = .ok (.aaload, 1) ∧ decode b_Office_gang 41 = .ok (.aload_n 0, 1) ∧ decode b_Office_gang 42 = .ok (.getfield 11, 3) ∧ decode b_Office_gang 45 = .ok (.iload_n 2, 1) ∧ decode b_Office_gang 46 = .ok (.aaload, 1) ∧ decode b_Office_gang 47 = .ok (.iload_n 3, 1) ∧ decode b_Office_gang 48 = .ok (.aload_n 0, 1) ∧ decode b_Office_gang 49 = .ok (.getfield 28, 3) ∧ decode b_Office_gang 52 = .ok (.invokevirtual 160, 3) ∧ decode b_Office_gang 55 = .ok (.ireturn, 1) := ⟨d_Office_gang_0, d_Office_gang_1, d_Office_gang_4, d_Office_gang_7, d_Office_gang_8, d_Office_gang_11, d_Office_gang_14, d_Office_gang_15, d_Office_gang_18, d_Office_gang_21, d_Office_gang_24, d_Office_gang_25, d_Office_gang_27, d_Office_gang_30, d_Office_gang_31, d_Office_gang_32, d_Office_gang_35, d_Office_gang_36, d_Office_gang_39, d_Office_gang_40, d_Office_gang_41, d_Office_gang_42, d_Office_gang_45, d_Office_gang_46, d_Office_gang_47, d_Office_gang_48, d_Office_gang_49, d_Office_gang_52, d_Office_gang_55⟩
theorem v_Office_gang : Cond.instanceMethod y_Office_gang ∈ nm_Ts ∧ Cond.selects y_Office_gang.cls y_Office_gang y_Office_gang ∈ nm_Ts ∧ Cond.initialized y_Office_gang.cls ∈ nm_Ts ∧ Cond.code y_Office_gang b_Office_gang 4 (some .int) ∈ nm_Ts ∧ mz_cl1 y_Office_gang 3 := ⟨nm_t3 109 rfl rfl, nm_t3 110 rfl rfl, nm_t1 1 rfl rfl, nm_t3 111 rfl rfl, by decide +kernel⟩
def y_Reproducer_punchGangs : MethodName := ⟨"CardOffice$Reproducer", "punchGangs", "(LCardOffice$Board;LCardOffice$Deck;ILCardOffice$FaultLight;)I"⟩
abbrev b_Reproducer_punchGangs : ByteArray := prog_10_method_3_code
def r_Reproducer_punchGangs (c s : Nat) : Room := { frames := 3, cells := c, slots := s, locals := 66 }
theorem d_Reproducer_punchGangs_0 : decode b_Reproducer_punchGangs 0 = .ok (.aconst_null, 1) := by decide +kernel
theorem d_Reproducer_punchGangs_1 : decode b_Reproducer_punchGangs 1 = .ok (.astore 5, 2) := by decide +kernel
theorem d_Reproducer_punchGangs_3 : decode b_Reproducer_punchGangs 3 = .ok (.iconst 0, 1) := by decide +kernel
theorem d_Reproducer_punchGangs_4 : decode b_Reproducer_punchGangs 4 = .ok (.istore 6, 2) := by decide +kernel
theorem d_Reproducer_punchGangs_6 : decode b_Reproducer_punchGangs 6 = .ok (.iload 6, 2) := by decide +kernel
theorem d_Reproducer_punchGangs_8 : decode b_Reproducer_punchGangs 8 = .ok (.aload_n 2, 1) := by decide +kernel
theorem d_Reproducer_punchGangs_9 : decode b_Reproducer_punchGangs 9 = .ok (.getfield 20, 3) := by decide +kernel
theorem d_Reproducer_punchGangs_12 : decode b_Reproducer_punchGangs 12 = .ok (.if_icmp .ge 98, 3) := by decide +kernel
theorem d_Reproducer_punchGangs_15 : decode b_Reproducer_punchGangs 15 = .ok (.aload_n 2, 1) := by decide +kernel
theorem d_Reproducer_punchGangs_16 : decode b_Reproducer_punchGangs 16 = .ok (.iload 6, 2) := by decide +kernel
theorem d_Reproducer_punchGangs_18 : decode b_Reproducer_punchGangs 18 = .ok (.invokevirtual 26, 3) := by decide +kernel
theorem d_Reproducer_punchGangs_21 : decode b_Reproducer_punchGangs 21 = .ok (.astore 7, 2) := by decide +kernel
theorem d_Reproducer_punchGangs_23 : decode b_Reproducer_punchGangs 23 = .ok (.aload 7, 2) := by decide +kernel
theorem d_Reproducer_punchGangs_25 : decode b_Reproducer_punchGangs 25 = .ok (.getfield 58, 3) := by decide +kernel
theorem d_Reproducer_punchGangs_28 : decode b_Reproducer_punchGangs 28 = .ok (.iload_n 3, 1) := by decide +kernel
theorem d_Reproducer_punchGangs_29 : decode b_Reproducer_punchGangs 29 = .ok (.iaload, 1) := by decide +kernel
theorem d_Reproducer_punchGangs_30 : decode b_Reproducer_punchGangs 30 = .ok (.invokestatic 64, 3) := by decide +kernel
theorem d_Reproducer_punchGangs_33 : decode b_Reproducer_punchGangs 33 = .ok (.iconst 2, 1) := by decide +kernel
theorem d_Reproducer_punchGangs_34 : decode b_Reproducer_punchGangs 34 = .ok (.if_icmp .ne 10, 3) := by decide +kernel
theorem d_Reproducer_punchGangs_37 : decode b_Reproducer_punchGangs 37 = .ok (.aload 7, 2) := by decide +kernel
theorem d_Reproducer_punchGangs_39 : decode b_Reproducer_punchGangs 39 = .ok (.astore 5, 2) := by decide +kernel
theorem d_Reproducer_punchGangs_41 : decode b_Reproducer_punchGangs 41 = .ok (.goto 63, 3) := by decide +kernel
theorem d_Reproducer_punchGangs_44 : decode b_Reproducer_punchGangs 44 = .ok (.aload 5, 2) := by decide +kernel
theorem d_Reproducer_punchGangs_46 : decode b_Reproducer_punchGangs 46 = .ok (.ifnull 58, 3) := by decide +kernel
theorem d_Reproducer_punchGangs_49 : decode b_Reproducer_punchGangs 49 = .ok (.aload_n 1, 1) := by decide +kernel
theorem d_Reproducer_punchGangs_50 : decode b_Reproducer_punchGangs 50 = .ok (.aload 5, 2) := by decide +kernel
theorem d_Reproducer_punchGangs_52 : decode b_Reproducer_punchGangs 52 = .ok (.aload_n 0, 1) := by decide +kernel
theorem d_Reproducer_punchGangs_53 : decode b_Reproducer_punchGangs 53 = .ok (.getfield 14, 3) := by decide +kernel
theorem d_Reproducer_punchGangs_56 : decode b_Reproducer_punchGangs 56 = .ok (.invokevirtual 30, 3) := by decide +kernel
theorem d_Reproducer_punchGangs_59 : decode b_Reproducer_punchGangs 59 = .ok (.aload_n 1, 1) := by decide +kernel
theorem d_Reproducer_punchGangs_60 : decode b_Reproducer_punchGangs 60 = .ok (.aload 5, 2) := by decide +kernel
theorem d_Reproducer_punchGangs_62 : decode b_Reproducer_punchGangs 62 = .ok (.aload 7, 2) := by decide +kernel
theorem d_Reproducer_punchGangs_64 : decode b_Reproducer_punchGangs 64 = .ok (.invokevirtual 67, 3) := by decide +kernel
theorem d_Reproducer_punchGangs_67 : decode b_Reproducer_punchGangs 67 = .ok (.ifCond .ne 12, 3) := by decide +kernel
theorem d_Reproducer_punchGangs_70 : decode b_Reproducer_punchGangs 70 = .ok (.aload 4, 2) := by decide +kernel
theorem d_Reproducer_punchGangs_72 : decode b_Reproducer_punchGangs 72 = .ok (.iconst 1, 1) := by decide +kernel
theorem d_Reproducer_punchGangs_73 : decode b_Reproducer_punchGangs 73 = .ok (.iload 6, 2) := by decide +kernel
theorem d_Reproducer_punchGangs_75 : decode b_Reproducer_punchGangs 75 = .ok (.invokevirtual 40, 3) := by decide +kernel
theorem d_Reproducer_punchGangs_78 : decode b_Reproducer_punchGangs 78 = .ok (.ireturn, 1) := by decide +kernel
theorem d_Reproducer_punchGangs_79 : decode b_Reproducer_punchGangs 79 = .ok (.aload_n 0, 1) := by decide +kernel
theorem d_Reproducer_punchGangs_80 : decode b_Reproducer_punchGangs 80 = .ok (.getfield 14, 3) := by decide +kernel
theorem d_Reproducer_punchGangs_83 : decode b_Reproducer_punchGangs 83 = .ok (.getfield 36, 3) := by decide +kernel
theorem d_Reproducer_punchGangs_86 : decode b_Reproducer_punchGangs 86 = .ok (.ifCond .eq 12, 3) := by decide +kernel
theorem d_Reproducer_punchGangs_89 : decode b_Reproducer_punchGangs 89 = .ok (.aload 4, 2) := by decide +kernel
theorem d_Reproducer_punchGangs_91 : decode b_Reproducer_punchGangs 91 = .ok (.iconst 2, 1) := by decide +kernel
theorem d_Reproducer_punchGangs_92 : decode b_Reproducer_punchGangs 92 = .ok (.iload 6, 2) := by decide +kernel
theorem d_Reproducer_punchGangs_94 : decode b_Reproducer_punchGangs 94 = .ok (.invokevirtual 40, 3) := by decide +kernel
theorem d_Reproducer_punchGangs_97 : decode b_Reproducer_punchGangs 97 = .ok (.ireturn, 1) := by decide +kernel
theorem d_Reproducer_punchGangs_98 : decode b_Reproducer_punchGangs 98 = .ok (.aload_n 0, 1) := by decide +kernel
theorem d_Reproducer_punchGangs_99 : decode b_Reproducer_punchGangs 99 = .ok (.aload 7, 2) := by decide +kernel
theorem d_Reproducer_punchGangs_101 : decode b_Reproducer_punchGangs 101 = .ok (.invokevirtual 71, 3) := by decide +kernel
theorem d_Reproducer_punchGangs_104 : decode b_Reproducer_punchGangs 104 = .ok (.iinc 6 1, 3) := by decide +kernel
theorem d_Reproducer_punchGangs_107 : decode b_Reproducer_punchGangs 107 = .ok (.goto (-101), 3) := by decide +kernel
theorem d_Reproducer_punchGangs_110 : decode b_Reproducer_punchGangs 110 = .ok (.aload 4, 2) := by decide +kernel
theorem d_Reproducer_punchGangs_112 : decode b_Reproducer_punchGangs 112 = .ok (.aload_n 2, 1) := by decide +kernel
theorem d_Reproducer_punchGangs_113 : decode b_Reproducer_punchGangs 113 = .ok (.getfield 20, 3) := by decide +kernel
theorem d_Reproducer_punchGangs_116 : decode b_Reproducer_punchGangs 116 = .ok (.invokevirtual 54, 3) := by decide +kernel
theorem d_Reproducer_punchGangs_119 : decode b_Reproducer_punchGangs 119 = .ok (.ireturn, 1) := by decide +kernel
theorem v_Reproducer_punchGangs : Cond.instanceMethod y_Reproducer_punchGangs ∈ nm_Ts ∧ Cond.selects y_Reproducer_punchGangs.cls y_Reproducer_punchGangs y_Reproducer_punchGangs ∈ nm_Ts ∧ Cond.initialized y_Reproducer_punchGangs.cls ∈ nm_Ts ∧ Cond.code y_Reproducer_punchGangs b_Reproducer_punchGangs 8 (some .int) ∈ nm_Ts ∧ mz_cl1 y_Reproducer_punchGangs 4 := ⟨nm_t3 114 rfl rfl, nm_t3 115 rfl rfl, nm_t1 6 rfl rfl, nm_t3 116 rfl rfl, by decide +kernel⟩
def y_Board_canPunch : MethodName := ⟨"CardOffice$Board", "canPunch", "(LCardOffice$Card;LCardOffice$Card;)Z"⟩
abbrev b_Board_canPunch : ByteArray := prog_2_method_10_code
def r_Board_canPunch (c s : Nat) : Room := { frames := 1, cells := c, slots := s, locals := 22 }
theorem d_Board_canPunch_0 : decode b_Board_canPunch 0 = .ok (.iconst 0, 1) := by decide +kernel
theorem d_Board_canPunch_1 : decode b_Board_canPunch 1 = .ok (.istore_n 3, 1) := by decide +kernel
theorem d_Board_canPunch_2 : decode b_Board_canPunch 2 = .ok (.iload_n 3, 1) := by decide +kernel
theorem d_Board_canPunch_3 : decode b_Board_canPunch 3 = .ok (.aload_n 0, 1) := by decide +kernel
theorem d_Board_canPunch_4 : decode b_Board_canPunch 4 = .ok (.getfield 27, 3) := by decide +kernel
theorem d_Board_canPunch_7 : decode b_Board_canPunch 7 = .ok (.if_icmp .ge 49, 3) := by decide +kernel
theorem d_Board_canPunch_10 : decode b_Board_canPunch 10 = .ok (.aload_n 0, 1) := by decide +kernel
theorem d_Board_canPunch_11 : decode b_Board_canPunch 11 = .ok (.iload_n 3, 1) := by decide +kernel
theorem d_Board_canPunch_12 : decode b_Board_canPunch 12 = .ok (.invokevirtual 45, 3) := by decide +kernel
theorem d_Board_canPunch_15 : decode b_Board_canPunch 15 = .ok (.ifCond .ne 35, 3) := by decide +kernel
theorem d_Board_canPunch_18 : decode b_Board_canPunch 18 = .ok (.aload_n 0, 1) := by decide +kernel
theorem d_Board_canPunch_19 : decode b_Board_canPunch 19 = .ok (.getfield 15, 3) := by decide +kernel
theorem d_Board_canPunch_22 : decode b_Board_canPunch 22 = .ok (.iload_n 3, 1) := by decide +kernel
theorem d_Board_canPunch_23 : decode b_Board_canPunch 23 = .ok (.iaload, 1) := by decide +kernel
theorem d_Board_canPunch_24 : decode b_Board_canPunch 24 = .ok (.bipush 16, 2) := by decide +kernel
theorem d_Board_canPunch_26 : decode b_Board_canPunch 26 = .ok (.if_icmp .ge 24, 3) := by decide +kernel
theorem d_Board_canPunch_29 : decode b_Board_canPunch 29 = .ok (.aload_n 2, 1) := by decide +kernel
theorem d_Board_canPunch_30 : decode b_Board_canPunch 30 = .ok (.aload_n 0, 1) := by decide +kernel
theorem d_Board_canPunch_31 : decode b_Board_canPunch 31 = .ok (.getfield 15, 3) := by decide +kernel
theorem d_Board_canPunch_34 : decode b_Board_canPunch 34 = .ok (.iload_n 3, 1) := by decide +kernel
theorem d_Board_canPunch_35 : decode b_Board_canPunch 35 = .ok (.iaload, 1) := by decide +kernel
theorem d_Board_canPunch_36 : decode b_Board_canPunch 36 = .ok (.aload_n 0, 1) := by decide +kernel
theorem d_Board_canPunch_37 : decode b_Board_canPunch 37 = .ok (.iload_n 3, 1) := by decide +kernel
theorem d_Board_canPunch_38 : decode b_Board_canPunch 38 = .ok (.aload_n 1, 1) := by decide +kernel
theorem d_Board_canPunch_39 : decode b_Board_canPunch 39 = .ok (.invokevirtual 52, 3) := by decide +kernel
theorem d_Board_canPunch_42 : decode b_Board_canPunch 42 = .ok (.invokevirtual 67, 3) := by decide +kernel
theorem d_Board_canPunch_45 : decode b_Board_canPunch 45 = .ok (.ifCond .ne 5, 3) := by decide +kernel
theorem d_Board_canPunch_48 : decode b_Board_canPunch 48 = .ok (.iconst 0, 1) := by decide +kernel
theorem d_Board_canPunch_49 : decode b_Board_canPunch 49 = .ok (.ireturn, 1) := by decide +kernel
theorem d_Board_canPunch_50 : decode b_Board_canPunch 50 = .ok (.iinc 3 1, 3) := by decide +kernel
theorem d_Board_canPunch_53 : decode b_Board_canPunch 53 = .ok (.goto (-51), 3) := by decide +kernel
theorem d_Board_canPunch_56 : decode b_Board_canPunch 56 = .ok (.iconst 1, 1) := by decide +kernel
theorem d_Board_canPunch_57 : decode b_Board_canPunch 57 = .ok (.ireturn, 1) := by decide +kernel
theorem v_Board_canPunch : Cond.instanceMethod y_Board_canPunch ∈ nm_Ts ∧ Cond.selects y_Board_canPunch.cls y_Board_canPunch y_Board_canPunch ∈ nm_Ts ∧ Cond.initialized y_Board_canPunch.cls ∈ nm_Ts ∧ Cond.code y_Board_canPunch b_Board_canPunch 4 (some .boolean) ∈ nm_Ts ∧ mz_cl1 y_Board_canPunch 2 := ⟨nm_t3 119 rfl rfl, nm_t3 120 rfl rfl, nm_t1 10 rfl rfl, nm_t3 121 rfl rfl, by decide +kernel⟩
def y_Card_canTake : MethodName := ⟨"CardOffice$Card", "canTake", "(II)Z"⟩
abbrev b_Card_canTake : ByteArray := prog_3_method_3_code
def r_Card_canTake (c s : Nat) : Room := { frames := 0, cells := c, slots := s, locals := 0 }
theorem d_Card_canTake_0 : decode b_Card_canTake 0 = .ok (.aload_n 0, 1) := by decide +kernel
theorem d_Card_canTake_1 : decode b_Card_canTake 1 = .ok (.getfield 9, 3) := by decide +kernel
theorem d_Card_canTake_4 : decode b_Card_canTake 4 = .ok (.iload_n 1, 1) := by decide +kernel
theorem d_Card_canTake_5 : decode b_Card_canTake 5 = .ok (.iaload, 1) := by decide +kernel
theorem d_Card_canTake_6 : decode b_Card_canTake 6 = .ok (.bipush 32, 2) := by decide +kernel
theorem d_Card_canTake_8 : decode b_Card_canTake 8 = .ok (.if_icmp .eq 13, 3) := by decide +kernel
theorem d_Card_canTake_11 : decode b_Card_canTake 11 = .ok (.aload_n 0, 1) := by decide +kernel
theorem d_Card_canTake_12 : decode b_Card_canTake 12 = .ok (.getfield 9, 3) := by decide +kernel
theorem d_Card_canTake_15 : decode b_Card_canTake 15 = .ok (.iload_n 1, 1) := by decide +kernel
theorem d_Card_canTake_16 : decode b_Card_canTake 16 = .ok (.iaload, 1) := by decide +kernel
theorem d_Card_canTake_17 : decode b_Card_canTake 17 = .ok (.iload_n 2, 1) := by decide +kernel
theorem d_Card_canTake_18 : decode b_Card_canTake 18 = .ok (.if_icmp .ne 7, 3) := by decide +kernel
theorem d_Card_canTake_21 : decode b_Card_canTake 21 = .ok (.iconst 1, 1) := by decide +kernel
theorem d_Card_canTake_22 : decode b_Card_canTake 22 = .ok (.goto 4, 3) := by decide +kernel
theorem d_Card_canTake_25 : decode b_Card_canTake 25 = .ok (.iconst 0, 1) := by decide +kernel
theorem d_Card_canTake_26 : decode b_Card_canTake 26 = .ok (.ireturn, 1) := by decide +kernel
theorem v_Card_canTake : Cond.instanceMethod y_Card_canTake ∈ nm_Ts ∧ Cond.selects y_Card_canTake.cls y_Card_canTake y_Card_canTake ∈ nm_Ts ∧ Cond.initialized y_Card_canTake.cls ∈ nm_Ts ∧ Cond.code y_Card_canTake b_Card_canTake 3 (some .boolean) ∈ nm_Ts ∧ mz_cl1 y_Card_canTake 2 := ⟨nm_t3 123 rfl rfl, nm_t3 124 rfl rfl, nm_t1 13 rfl rfl, nm_t3 125 rfl rfl, by decide +kernel⟩
def y_Reproducer_punchInto : MethodName := ⟨"CardOffice$Reproducer", "punchInto", "(LCardOffice$Card;)V"⟩
abbrev b_Reproducer_punchInto : ByteArray := prog_10_method_5_code
def r_Reproducer_punchInto (c s : Nat) : Room := { frames := 0, cells := c, slots := s, locals := 0 }
theorem d_Reproducer_punchInto_0 : decode b_Reproducer_punchInto 0 = .ok (.iconst 0, 1) := by decide +kernel
theorem d_Reproducer_punchInto_1 : decode b_Reproducer_punchInto 1 = .ok (.istore_n 2, 1) := by decide +kernel
theorem d_Reproducer_punchInto_2 : decode b_Reproducer_punchInto 2 = .ok (.iload_n 2, 1) := by decide +kernel
theorem d_Reproducer_punchInto_3 : decode b_Reproducer_punchInto 3 = .ok (.bipush 16, 2) := by decide +kernel
theorem d_Reproducer_punchInto_5 : decode b_Reproducer_punchInto 5 = .ok (.if_icmp .ge 37, 3) := by decide +kernel
theorem d_Reproducer_punchInto_8 : decode b_Reproducer_punchInto 8 = .ok (.aload_n 0, 1) := by decide +kernel
theorem d_Reproducer_punchInto_9 : decode b_Reproducer_punchInto 9 = .ok (.getfield 14, 3) := by decide +kernel
theorem d_Reproducer_punchInto_12 : decode b_Reproducer_punchInto 12 = .ok (.getfield 78, 3) := by decide +kernel
theorem d_Reproducer_punchInto_15 : decode b_Reproducer_punchInto 15 = .ok (.iload_n 2, 1) := by decide +kernel
theorem d_Reproducer_punchInto_16 : decode b_Reproducer_punchInto 16 = .ok (.iaload, 1) := by decide +kernel
theorem d_Reproducer_punchInto_17 : decode b_Reproducer_punchInto 17 = .ok (.iconst (-1), 1) := by decide +kernel
theorem d_Reproducer_punchInto_18 : decode b_Reproducer_punchInto 18 = .ok (.if_icmp .eq 18, 3) := by decide +kernel
theorem d_Reproducer_punchInto_21 : decode b_Reproducer_punchInto 21 = .ok (.aload_n 1, 1) := by decide +kernel
theorem d_Reproducer_punchInto_22 : decode b_Reproducer_punchInto 22 = .ok (.getfield 58, 3) := by decide +kernel
theorem d_Reproducer_punchInto_25 : decode b_Reproducer_punchInto 25 = .ok (.iload_n 2, 1) := by decide +kernel
theorem d_Reproducer_punchInto_26 : decode b_Reproducer_punchInto 26 = .ok (.aload_n 0, 1) := by decide +kernel
theorem d_Reproducer_punchInto_27 : decode b_Reproducer_punchInto 27 = .ok (.getfield 14, 3) := by decide +kernel
theorem d_Reproducer_punchInto_30 : decode b_Reproducer_punchInto 30 = .ok (.getfield 78, 3) := by decide +kernel
theorem d_Reproducer_punchInto_33 : decode b_Reproducer_punchInto 33 = .ok (.iload_n 2, 1) := by decide +kernel
theorem d_Reproducer_punchInto_34 : decode b_Reproducer_punchInto 34 = .ok (.iaload, 1) := by decide +kernel
theorem d_Reproducer_punchInto_35 : decode b_Reproducer_punchInto 35 = .ok (.iastore, 1) := by decide +kernel
theorem d_Reproducer_punchInto_36 : decode b_Reproducer_punchInto 36 = .ok (.iinc 2 1, 3) := by decide +kernel
theorem d_Reproducer_punchInto_39 : decode b_Reproducer_punchInto 39 = .ok (.goto (-37), 3) := by decide +kernel
theorem d_Reproducer_punchInto_42 : decode b_Reproducer_punchInto 42 = .ok (.return_, 1) := by decide +kernel
theorem v_Reproducer_punchInto : Cond.instanceMethod y_Reproducer_punchInto ∈ nm_Ts ∧ Cond.selects y_Reproducer_punchInto.cls y_Reproducer_punchInto y_Reproducer_punchInto ∈ nm_Ts ∧ Cond.initialized y_Reproducer_punchInto.cls ∈ nm_Ts ∧ Cond.code y_Reproducer_punchInto b_Reproducer_punchInto 3 none ∈ nm_Ts ∧ mz_cl1 y_Reproducer_punchInto 1 := ⟨nm_t3 128 rfl rfl, nm_s 9 rfl rfl, nm_t1 6 rfl rfl, nm_t3 129 rfl rfl, by decide +kernel⟩
def y_Office_multiply : MethodName := ⟨"CardOffice", "multiply", "(IIII)I"⟩
abbrev b_Office_multiply : ByteArray := prog_1_method_12_code
def r_Office_multiply (c s : Nat) : Room := { frames := 7, cells := c, slots := s, locals := 140 }
theorem d_Office_multiply_0 : decode b_Office_multiply 0 = .ok (.iload_n 1, 1) := by decide +kernel
theorem d_Office_multiply_1 : decode b_Office_multiply 1 = .ok (.invokestatic 62, 3) := by decide +kernel
theorem d_Office_multiply_4 : decode b_Office_multiply 4 = .ok (.ifCond .eq 25, 3) := by decide +kernel
theorem d_Office_multiply_7 : decode b_Office_multiply 7 = .ok (.iload_n 2, 1) := by decide +kernel
theorem d_Office_multiply_8 : decode b_Office_multiply 8 = .ok (.invokestatic 164, 3) := by decide +kernel
theorem d_Office_multiply_11 : decode b_Office_multiply 11 = .ok (.ifCond .eq 18, 3) := by decide +kernel
theorem d_Office_multiply_14 : decode b_Office_multiply 14 = .ok (.iload_n 3, 1) := by decide +kernel
theorem d_Office_multiply_15 : decode b_Office_multiply 15 = .ok (.invokestatic 164, 3) := by decide +kernel
theorem d_Office_multiply_18 : decode b_Office_multiply 18 = .ok (.ifCond .eq 11, 3) := by decide +kernel
theorem d_Office_multiply_21 : decode b_Office_multiply 21 = .ok (.iload 4, 2) := by decide +kernel
theorem d_Office_multiply_23 : decode b_Office_multiply 23 = .ok (.invokestatic 164, 3) := by decide +kernel
theorem d_Office_multiply_26 : decode b_Office_multiply 26 = .ok (.ifCond .ne 13, 3) := by decide +kernel
theorem d_Office_multiply_29 : decode b_Office_multiply 29 = .ok (.new 109, 3) := by decide +kernel
theorem d_Office_multiply_32 : decode b_Office_multiply 32 = .ok (.dup, 1) := by decide +kernel
theorem d_Office_multiply_33 : decode b_Office_multiply 33 = .ok (.ldc 123, 2) := by decide +kernel
theorem d_Office_multiply_35 : decode b_Office_multiply 35 = .ok (.invokespecial 113, 3) := by decide +kernel
theorem d_Office_multiply_38 : decode b_Office_multiply 38 = .ok (.athrow, 1) := by decide +kernel
theorem d_Office_multiply_39 : decode b_Office_multiply 39 = .ok (.iload 4, 2) := by decide +kernel
theorem d_Office_multiply_41 : decode b_Office_multiply 41 = .ok (.iload_n 2, 1) := by decide +kernel
theorem d_Office_multiply_42 : decode b_Office_multiply 42 = .ok (.invokestatic 167, 3) := by decide +kernel
theorem d_Office_multiply_45 : decode b_Office_multiply 45 = .ok (.ifCond .ne 12, 3) := by decide +kernel
theorem d_Office_multiply_48 : decode b_Office_multiply 48 = .ok (.iload 4, 2) := by decide +kernel
theorem d_Office_multiply_50 : decode b_Office_multiply 50 = .ok (.iload_n 3, 1) := by decide +kernel
theorem d_Office_multiply_51 : decode b_Office_multiply 51 = .ok (.invokestatic 167, 3) := by decide +kernel
theorem d_Office_multiply_54 : decode b_Office_multiply 54 = .ok (.ifCond .eq 13, 3) := by decide +kernel
theorem d_Office_multiply_57 : decode b_Office_multiply 57 = .ok (.new 109, 3) := by decide +kernel
theorem d_Office_multiply_60 : decode b_Office_multiply 60 = .ok (.dup, 1) := by decide +kernel
theorem d_Office_multiply_61 : decode b_Office_multiply 61 = .ok (.ldc 170, 2) := by decide +kernel
theorem d_Office_multiply_63 : decode b_Office_multiply 63 = .ok (.invokespecial 113, 3) := by decide +kernel
theorem d_Office_multiply_66 : decode b_Office_multiply 66 = .ok (.athrow, 1) := by decide +kernel
theorem d_Office_multiply_67 : decode b_Office_multiply 67 = .ok (.aload_n 0, 1) := by decide +kernel
theorem d_Office_multiply_68 : decode b_Office_multiply 68 = .ok (.getfield 11, 3) := by decide +kernel
theorem d_Office_multiply_71 : decode b_Office_multiply 71 = .ok (.iload_n 1, 1) := by decide +kernel
theorem d_Office_multiply_72 : decode b_Office_multiply 72 = .ok (.aaload, 1) := by decide +kernel
theorem d_Office_multiply_73 : decode b_Office_multiply 73 = .ok (.iload_n 2, 1) := by decide +kernel
theorem d_Office_multiply_74 : decode b_Office_multiply 74 = .ok (.iload_n 3, 1) := by decide +kernel
theorem d_Office_multiply_75 : decode b_Office_multiply 75 = .ok (.iload 4, 2) := by decide +kernel
theorem d_Office_multiply_77 : decode b_Office_multiply 77 = .ok (.aload_n 0, 1) := by decide +kernel
theorem d_Office_multiply_78 : decode b_Office_multiply 78 = .ok (.getfield 28, 3) := by decide +kernel
theorem d_Office_multiply_81 : decode b_Office_multiply 81 = .ok (.invokestatic 172, 3) := by decide +kernel
theorem d_Office_multiply_84 : decode b_Office_multiply 84 = .ok (.ireturn, 1) := by decide +kernel
theorem d_Office_multiply : decode b_Office_multiply 0 = .ok (.iload_n 1, 1) ∧ decode b_Office_multiply 1 = .ok (.invokestatic 62, 3) ∧ decode b_Office_multiply 4 = .ok (.ifCond .eq 25, 3) ∧ decode b_Office_multiply 7 = .ok (.iload_n 2, 1) ∧ decode b_Office_multiply 8 = .ok (.invokestatic 164, 3) ∧ decode b_Office_multiply 11 = .ok (.ifCond .eq 18, 3) ∧ decode b_Office_multiply 14 = .ok (.iload_n 3, 1) ∧ decode b_Office_multiply 15 = .ok (.invokestatic 164, 3) ∧ decode b_Office_multiply 18 = .ok (.ifCond .eq 11, 3) ∧ decode b_Office_multiply 21 = .ok (.iload 4, 2) ∧ decode b_Office_multiply 23 = .ok (.invokestatic 164, 3) ∧ decode b_Office_multiply 26 = .ok (.ifCond .ne 13, 3) ∧ decode b_Office_multiply 29 = .ok (.new 109, 3) ∧ decode b_Office_multiply 32 = .ok (.dup, 1) ∧ decode b_Office_multiply 33 = .ok (.ldc 123, 2) ∧ decode b_Office_multiply 35 = .ok (.invokespecial 113, 3) ∧ decode b_Office_multiply 38 = .ok (.athrow, 1) ∧ decode b_Office_multiply 39 = .ok (.iload 4, 2) ∧ decode b_Office_multiply 41 = .ok (.iload_n 2, 1) ∧ decode b_Office_multiply 42 = .ok (.invokestatic 167, 3) ∧ decode b_Office_multiply 45 = .ok (.ifCond .ne 12, 3) ∧ decode b_Office_multiply 48 = .ok (.iload 4, 2) ∧ decode b_Office_multiply 50 = .ok (.iload_n 3, 1) ∧ decode b_Office_multiply 51 = .ok (.invokestatic 167, 3) ∧ decode b_Office_multiply 54 = .ok (.ifCond .eq 13, 3) ∧ decode b_Office_multiply 57 = .ok (.new 109, 3) ∧ decode b_Office_multiply 60 = .ok (.dup, 1) ∧ decode b_Office_multiply 61 = .ok (.ldc 170, 2) ∧ decode b_Office_multiply 63 = .ok (.invokespecial 113, 3) ∧ decode b_Office_multiply 66 = .ok (.athrow, 1) ∧ decode b_Office_multiply 67 = .ok (.aload_n 0, 1) ∧ decode b_Office_multiply 68 = .ok (.getfield 11, 3) ∧ decode b_Office_multiply 71 = .ok (.iload_n 1, 1) ∧ decode b_Office_multiply 72 = .ok (.aaload, 1) ∧ decode b_Office_multiply 73 = .ok (.iload_n 2, 1) ∧ decode b_Office_multiply 74 = .ok (.iload_n 3, 1) ∧ decode b_Office_multiply 75 = .ok (.iload 4, 2) ∧ decode b_Office_multiply 77 = .ok (.aload_n 0, 1) ∧ decode b_Office_multiply 78 = .ok (.getfield 28, 3) ∧ decode b_Office_multiply 81 = .ok (.invokestatic 172, 3) ∧ decode b_Office_multiply 84 = .ok (.ireturn, 1) := ⟨d_Office_multiply_0, d_Office_multiply_1, d_Office_multiply_4, d_Office_multiply_7, d_Office_multiply_8, d_Office_multiply_11, d_Office_multiply_14, d_Office_multiply_15, d_Office_multiply_18, d_Office_multiply_21, d_Office_multiply_23, d_Office_multiply_26, d_Office_multiply_29, d_Office_multiply_32, d_Office_multiply_33, d_Office_multiply_35, d_Office_multiply_38, d_Office_multiply_39, d_Office_multiply_41, d_Office_multiply_42, d_Office_multiply_45, d_Office_multiply_48, d_Office_multiply_50, d_Office_multiply_51, d_Office_multiply_54, d_Office_multiply_57, d_Office_multiply_60, d_Office_multiply_61, d_Office_multiply_63, d_Office_multiply_66, d_Office_multiply_67, d_Office_multiply_68, d_Office_multiply_71, d_Office_multiply_72, d_Office_multiply_73, d_Office_multiply_74, d_Office_multiply_75, d_Office_multiply_77, d_Office_multiply_78, d_Office_multiply_81, d_Office_multiply_84⟩
theorem v_Office_multiply : Cond.instanceMethod y_Office_multiply ∈ nm_Ts ∧ Cond.selects y_Office_multiply.cls y_Office_multiply y_Office_multiply ∈ nm_Ts ∧ Cond.initialized y_Office_multiply.cls ∈ nm_Ts ∧ Cond.code y_Office_multiply b_Office_multiply 5 (some .int) ∈ nm_Ts ∧ mz_cl1 y_Office_multiply 4 := ⟨nm_t3 134 rfl rfl, nm_t3 135 rfl rfl, nm_t1 1 rfl rfl, nm_t3 136 rfl rfl, by decide +kernel⟩
def y_Office_isFactorField : MethodName := ⟨"CardOffice", "isFactorField", "(I)Z"⟩
abbrev b_Office_isFactorField : ByteArray := prog_1_method_29_code
def r_Office_isFactorField (c s : Nat) : Room := { frames := 2, cells := c, slots := s, locals := 40 }
theorem d_Office_isFactorField_0 : decode b_Office_isFactorField 0 = .ok (.iload_n 0, 1) := by decide +kernel
theorem d_Office_isFactorField_1 : decode b_Office_isFactorField 1 = .ok (.ifCond .lt 22, 3) := by decide +kernel
theorem d_Office_isFactorField_4 : decode b_Office_isFactorField 4 = .ok (.iload_n 0, 1) := by decide +kernel
theorem d_Office_isFactorField_5 : decode b_Office_isFactorField 5 = .ok (.bipush 96, 2) := by decide +kernel
theorem d_Office_isFactorField_7 : decode b_Office_isFactorField 7 = .ok (.if_icmp .ge 16, 3) := by decide +kernel
theorem d_Office_isFactorField_10 : decode b_Office_isFactorField 10 = .ok (.iload_n 0, 1) := by decide +kernel
theorem d_Office_isFactorField_11 : decode b_Office_isFactorField 11 = .ok (.invokestatic 234, 3) := by decide +kernel
theorem d_Office_isFactorField_14 : decode b_Office_isFactorField 14 = .ok (.bipush 16, 2) := by decide +kernel
theorem d_Office_isFactorField_16 : decode b_Office_isFactorField 16 = .ok (.if_icmp .gt 7, 3) := by decide +kernel
theorem d_Office_isFactorField_19 : decode b_Office_isFactorField 19 = .ok (.iconst 1, 1) := by decide +kernel
theorem d_Office_isFactorField_20 : decode b_Office_isFactorField 20 = .ok (.goto 4, 3) := by decide +kernel
theorem d_Office_isFactorField_23 : decode b_Office_isFactorField 23 = .ok (.iconst 0, 1) := by decide +kernel
theorem d_Office_isFactorField_24 : decode b_Office_isFactorField 24 = .ok (.ireturn, 1) := by decide +kernel
theorem s_Office_isFactorField : Cond.static y_Office_isFactorField ∈ nm_Ts ∧ Cond.initialized y_Office_isFactorField.cls ∈ nm_Ts ∧ Cond.code y_Office_isFactorField b_Office_isFactorField 1 (some .boolean) ∈ nm_Ts ∧ mz_cl1 y_Office_isFactorField 1 := ⟨nm_t3 138 rfl rfl, nm_t1 1 rfl rfl, nm_t3 139 rfl rfl, by decide +kernel⟩
def y_Office_endOf : MethodName := ⟨"CardOffice", "endOf", "(I)I"⟩
abbrev b_Office_endOf : ByteArray := prog_1_method_33_code
def r_Office_endOf (c s : Nat) : Room := { frames := 1, cells := c, slots := s, locals := 20 }
theorem d_Office_endOf_0 : decode b_Office_endOf 0 = .ok (.iload_n 0, 1) := by decide +kernel
theorem d_Office_endOf_1 : decode b_Office_endOf 1 = .ok (.invokestatic 238, 3) := by decide +kernel
theorem d_Office_endOf_4 : decode b_Office_endOf 4 = .ok (.iload_n 0, 1) := by decide +kernel
theorem d_Office_endOf_5 : decode b_Office_endOf 5 = .ok (.invokestatic 241, 3) := by decide +kernel
theorem d_Office_endOf_8 : decode b_Office_endOf 8 = .ok (.iadd, 1) := by decide +kernel
theorem d_Office_endOf_9 : decode b_Office_endOf 9 = .ok (.ireturn, 1) := by decide +kernel
theorem s_Office_endOf : Cond.static y_Office_endOf ∈ nm_Ts ∧ Cond.initialized y_Office_endOf.cls ∈ nm_Ts ∧ Cond.code y_Office_endOf b_Office_endOf 1 (some .int) ∈ nm_Ts ∧ mz_cl1 y_Office_endOf 1 := ⟨nm_t3 141 rfl rfl, nm_t1 1 rfl rfl, nm_t3 142 rfl rfl, by decide +kernel⟩
def y_Office_startOf : MethodName := ⟨"CardOffice", "startOf", "(I)I"⟩
abbrev b_Office_startOf : ByteArray := prog_1_method_31_code
def r_Office_startOf (c s : Nat) : Room := { frames := 0, cells := c, slots := s, locals := 0 }
theorem d_Office_startOf_0 : decode b_Office_startOf 0 = .ok (.iload_n 0, 1) := by decide +kernel
theorem d_Office_startOf_1 : decode b_Office_startOf 1 = .ok (.bipush 16, 2) := by decide +kernel
theorem d_Office_startOf_3 : decode b_Office_startOf 3 = .ok (.irem, 1) := by decide +kernel
theorem d_Office_startOf_4 : decode b_Office_startOf 4 = .ok (.ireturn, 1) := by decide +kernel
theorem s_Office_startOf : Cond.static y_Office_startOf ∈ nm_Ts ∧ Cond.initialized y_Office_startOf.cls ∈ nm_Ts ∧ Cond.code y_Office_startOf b_Office_startOf 1 (some .int) ∈ nm_Ts ∧ mz_cl1 y_Office_startOf 1 := ⟨nm_t3 144 rfl rfl, nm_t1 1 rfl rfl, nm_t3 145 rfl rfl, by decide +kernel⟩
def y_Office_widthOf : MethodName := ⟨"CardOffice", "widthOf", "(I)I"⟩
abbrev b_Office_widthOf : ByteArray := prog_1_method_32_code
def r_Office_widthOf (c s : Nat) : Room := { frames := 0, cells := c, slots := s, locals := 0 }
theorem d_Office_widthOf_0 : decode b_Office_widthOf 0 = .ok (.iload_n 0, 1) := by decide +kernel
theorem d_Office_widthOf_1 : decode b_Office_widthOf 1 = .ok (.bipush 16, 2) := by decide +kernel
theorem d_Office_widthOf_3 : decode b_Office_widthOf 3 = .ok (.idiv, 1) := by decide +kernel
theorem d_Office_widthOf_4 : decode b_Office_widthOf 4 = .ok (.iconst 1, 1) := by decide +kernel
theorem d_Office_widthOf_5 : decode b_Office_widthOf 5 = .ok (.iadd, 1) := by decide +kernel
theorem d_Office_widthOf_6 : decode b_Office_widthOf 6 = .ok (.ireturn, 1) := by decide +kernel
theorem s_Office_widthOf : Cond.static y_Office_widthOf ∈ nm_Ts ∧ Cond.initialized y_Office_widthOf.cls ∈ nm_Ts ∧ Cond.code y_Office_widthOf b_Office_widthOf 1 (some .int) ∈ nm_Ts ∧ mz_cl1 y_Office_widthOf 1 := ⟨nm_t3 147 rfl rfl, nm_t1 1 rfl rfl, nm_t3 148 rfl rfl, by decide +kernel⟩
def y_Office_haveCommonColumn : MethodName := ⟨"CardOffice", "haveCommonColumn", "(II)Z"⟩
abbrev b_Office_haveCommonColumn : ByteArray := prog_1_method_30_code
def r_Office_haveCommonColumn (c s : Nat) : Room := { frames := 2, cells := c, slots := s, locals := 40 }
theorem d_Office_haveCommonColumn_0 : decode b_Office_haveCommonColumn 0 = .ok (.iload_n 0, 1) := by decide +kernel
theorem d_Office_haveCommonColumn_1 : decode b_Office_haveCommonColumn 1 = .ok (.invokestatic 238, 3) := by decide +kernel
theorem d_Office_haveCommonColumn_4 : decode b_Office_haveCommonColumn 4 = .ok (.iload_n 1, 1) := by decide +kernel
theorem d_Office_haveCommonColumn_5 : decode b_Office_haveCommonColumn 5 = .ok (.invokestatic 234, 3) := by decide +kernel
theorem d_Office_haveCommonColumn_8 : decode b_Office_haveCommonColumn 8 = .ok (.if_icmp .ge 18, 3) := by decide +kernel
theorem d_Office_haveCommonColumn_11 : decode b_Office_haveCommonColumn 11 = .ok (.iload_n 1, 1) := by decide +kernel
theorem d_Office_haveCommonColumn_12 : decode b_Office_haveCommonColumn 12 = .ok (.invokestatic 238, 3) := by decide +kernel
theorem d_Office_haveCommonColumn_15 : decode b_Office_haveCommonColumn 15 = .ok (.iload_n 0, 1) := by decide +kernel
theorem d_Office_haveCommonColumn_16 : decode b_Office_haveCommonColumn 16 = .ok (.invokestatic 234, 3) := by decide +kernel
theorem d_Office_haveCommonColumn_19 : decode b_Office_haveCommonColumn 19 = .ok (.if_icmp .ge 7, 3) := by decide +kernel
theorem d_Office_haveCommonColumn_22 : decode b_Office_haveCommonColumn 22 = .ok (.iconst 1, 1) := by decide +kernel
theorem d_Office_haveCommonColumn_23 : decode b_Office_haveCommonColumn 23 = .ok (.goto 4, 3) := by decide +kernel
theorem d_Office_haveCommonColumn_26 : decode b_Office_haveCommonColumn 26 = .ok (.iconst 0, 1) := by decide +kernel
theorem d_Office_haveCommonColumn_27 : decode b_Office_haveCommonColumn 27 = .ok (.ireturn, 1) := by decide +kernel
theorem s_Office_haveCommonColumn : Cond.static y_Office_haveCommonColumn ∈ nm_Ts ∧ Cond.initialized y_Office_haveCommonColumn.cls ∈ nm_Ts ∧ Cond.code y_Office_haveCommonColumn b_Office_haveCommonColumn 2 (some .boolean) ∈ nm_Ts ∧ mz_cl1 y_Office_haveCommonColumn 2 := ⟨nm_t3 150 rfl rfl, nm_t1 1 rfl rfl, nm_t3 151 rfl rfl, by decide +kernel⟩
def y_Multiplier_goThrough : MethodName := ⟨"CardOffice$Multiplier", "goThrough", "(LCardOffice$Deck;IIILCardOffice$FaultLight;)I"⟩
abbrev b_Multiplier_goThrough : ByteArray := prog_8_method_2_code
def r_Multiplier_goThrough (c s : Nat) : Room := { frames := 5, cells := c, slots := s, locals := 114 }
theorem d_Multiplier_goThrough_0 : decode b_Multiplier_goThrough 0 = .ok (.iconst 0, 1) := by decide +kernel
theorem d_Multiplier_goThrough_1 : decode b_Multiplier_goThrough 1 = .ok (.istore 5, 2) := by decide +kernel
theorem d_Multiplier_goThrough_3 : decode b_Multiplier_goThrough 3 = .ok (.iload 5, 2) := by decide +kernel
theorem d_Multiplier_goThrough_5 : decode b_Multiplier_goThrough 5 = .ok (.aload_n 0, 1) := by decide +kernel
theorem d_Multiplier_goThrough_6 : decode b_Multiplier_goThrough 6 = .ok (.getfield 9, 3) := by decide +kernel
theorem d_Multiplier_goThrough_9 : decode b_Multiplier_goThrough 9 = .ok (.if_icmp .ge 38, 3) := by decide +kernel
theorem d_Multiplier_goThrough_12 : decode b_Multiplier_goThrough 12 = .ok (.aload_n 0, 1) := by decide +kernel
theorem d_Multiplier_goThrough_13 : decode b_Multiplier_goThrough 13 = .ok (.iload 5, 2) := by decide +kernel
theorem d_Multiplier_goThrough_15 : decode b_Multiplier_goThrough 15 = .ok (.invokevirtual 15, 3) := by decide +kernel
theorem d_Multiplier_goThrough_18 : decode b_Multiplier_goThrough 18 = .ok (.iload_n 1, 1) := by decide +kernel
theorem d_Multiplier_goThrough_19 : decode b_Multiplier_goThrough 19 = .ok (.iload_n 2, 1) := by decide +kernel
theorem d_Multiplier_goThrough_20 : decode b_Multiplier_goThrough 20 = .ok (.iload_n 3, 1) := by decide +kernel
theorem d_Multiplier_goThrough_21 : decode b_Multiplier_goThrough 21 = .ok (.invokestatic 19, 3) := by decide +kernel
theorem d_Multiplier_goThrough_24 : decode b_Multiplier_goThrough 24 = .ok (.istore 6, 2) := by decide +kernel
theorem d_Multiplier_goThrough_26 : decode b_Multiplier_goThrough 26 = .ok (.iload 6, 2) := by decide +kernel
theorem d_Multiplier_goThrough_28 : decode b_Multiplier_goThrough 28 = .ok (.ifCond .eq 13, 3) := by decide +kernel
theorem d_Multiplier_goThrough_31 : decode b_Multiplier_goThrough 31 = .ok (.aload 4, 2) := by decide +kernel
theorem d_Multiplier_goThrough_33 : decode b_Multiplier_goThrough 33 = .ok (.iload 6, 2) := by decide +kernel
theorem d_Multiplier_goThrough_35 : decode b_Multiplier_goThrough 35 = .ok (.iload 5, 2) := by decide +kernel
theorem d_Multiplier_goThrough_37 : decode b_Multiplier_goThrough 37 = .ok (.invokevirtual 25, 3) := by decide +kernel
theorem d_Multiplier_goThrough_40 : decode b_Multiplier_goThrough 40 = .ok (.ireturn, 1) := by decide +kernel
theorem d_Multiplier_goThrough_41 : decode b_Multiplier_goThrough 41 = .ok (.iinc 5 1, 3) := by decide +kernel
theorem d_Multiplier_goThrough_44 : decode b_Multiplier_goThrough 44 = .ok (.goto (-41), 3) := by decide +kernel
theorem d_Multiplier_goThrough_47 : decode b_Multiplier_goThrough 47 = .ok (.aload 4, 2) := by decide +kernel
theorem d_Multiplier_goThrough_49 : decode b_Multiplier_goThrough 49 = .ok (.aload_n 0, 1) := by decide +kernel
theorem d_Multiplier_goThrough_50 : decode b_Multiplier_goThrough 50 = .ok (.getfield 9, 3) := by decide +kernel
theorem d_Multiplier_goThrough_53 : decode b_Multiplier_goThrough 53 = .ok (.invokevirtual 31, 3) := by decide +kernel
theorem d_Multiplier_goThrough_56 : decode b_Multiplier_goThrough 56 = .ok (.ireturn, 1) := by decide +kernel
theorem s_Multiplier_goThrough : Cond.static y_Multiplier_goThrough ∈ nm_Ts ∧ Cond.initialized y_Multiplier_goThrough.cls ∈ nm_Ts ∧ Cond.code y_Multiplier_goThrough b_Multiplier_goThrough 7 (some .int) ∈ nm_Ts ∧ mz_cl1 y_Multiplier_goThrough 5 := ⟨nm_t3 154 rfl rfl, nm_t1 20 rfl rfl, nm_t3 155 rfl rfl, by decide +kernel⟩
def y_Multiplier_multiplyOn : MethodName := ⟨"CardOffice$Multiplier", "multiplyOn", "(LCardOffice$Card;III)I"⟩
abbrev b_Multiplier_multiplyOn : ByteArray := prog_8_method_3_code
def r_Multiplier_multiplyOn (c s : Nat) : Room := { frames := 4, cells := c, slots := s, locals := 85 }
theorem d_Multiplier_multiplyOn_0 : decode b_Multiplier_multiplyOn 0 = .ok (.aload_n 0, 1) := by decide +kernel
theorem d_Multiplier_multiplyOn_1 : decode b_Multiplier_multiplyOn 1 = .ok (.iload_n 1, 1) := by decide +kernel
theorem d_Multiplier_multiplyOn_2 : decode b_Multiplier_multiplyOn 2 = .ok (.invokestatic 35, 3) := by decide +kernel
theorem d_Multiplier_multiplyOn_5 : decode b_Multiplier_multiplyOn 5 = .ok (.lstore 4, 2) := by decide +kernel
theorem d_Multiplier_multiplyOn_7 : decode b_Multiplier_multiplyOn 7 = .ok (.aload_n 0, 1) := by decide +kernel
theorem d_Multiplier_multiplyOn_8 : decode b_Multiplier_multiplyOn 8 = .ok (.iload_n 2, 1) := by decide +kernel
theorem d_Multiplier_multiplyOn_9 : decode b_Multiplier_multiplyOn 9 = .ok (.invokestatic 35, 3) := by decide +kernel
theorem d_Multiplier_multiplyOn_12 : decode b_Multiplier_multiplyOn 12 = .ok (.lstore 6, 2) := by decide +kernel
theorem d_Multiplier_multiplyOn_14 : decode b_Multiplier_multiplyOn 14 = .ok (.lload 4, 2) := by decide +kernel
theorem d_Multiplier_multiplyOn_16 : decode b_Multiplier_multiplyOn 16 = .ok (.ldc2_w 39, 3) := by decide +kernel
theorem d_Multiplier_multiplyOn_19 : decode b_Multiplier_multiplyOn 19 = .ok (.lcmp, 1) := by decide +kernel
theorem d_Multiplier_multiplyOn_20 : decode b_Multiplier_multiplyOn 20 = .ok (.ifCond .eq 12, 3) := by decide +kernel
theorem d_Multiplier_multiplyOn_23 : decode b_Multiplier_multiplyOn 23 = .ok (.lload 6, 2) := by decide +kernel
theorem d_Multiplier_multiplyOn_25 : decode b_Multiplier_multiplyOn 25 = .ok (.ldc2_w 39, 3) := by decide +kernel
theorem d_Multiplier_multiplyOn_28 : decode b_Multiplier_multiplyOn 28 = .ok (.lcmp, 1) := by decide +kernel
theorem d_Multiplier_multiplyOn_29 : decode b_Multiplier_multiplyOn 29 = .ok (.ifCond .ne 5, 3) := by decide +kernel
theorem d_Multiplier_multiplyOn_32 : decode b_Multiplier_multiplyOn 32 = .ok (.iconst 1, 1) := by decide +kernel
theorem d_Multiplier_multiplyOn_33 : decode b_Multiplier_multiplyOn 33 = .ok (.ireturn, 1) := by decide +kernel
theorem d_Multiplier_multiplyOn_34 : decode b_Multiplier_multiplyOn 34 = .ok (.lload 4, 2) := by decide +kernel
theorem d_Multiplier_multiplyOn_36 : decode b_Multiplier_multiplyOn 36 = .ok (.lload 6, 2) := by decide +kernel
theorem d_Multiplier_multiplyOn_38 : decode b_Multiplier_multiplyOn 38 = .ok (.lmul, 1) := by decide +kernel
theorem d_Multiplier_multiplyOn_39 : decode b_Multiplier_multiplyOn 39 = .ok (.ldc2_w 41, 3) := by decide +kernel
theorem d_Multiplier_multiplyOn_42 : decode b_Multiplier_multiplyOn 42 = .ok (.ladd, 1) := by decide +kernel
theorem d_Multiplier_multiplyOn_43 : decode b_Multiplier_multiplyOn 43 = .ok (.ldc2_w 43, 3) := by decide +kernel
theorem d_Multiplier_multiplyOn_46 : decode b_Multiplier_multiplyOn 46 = .ok (.ldiv, 1) := by decide +kernel
theorem d_Multiplier_multiplyOn_47 : decode b_Multiplier_multiplyOn 47 = .ok (.lstore 8, 2) := by decide +kernel
theorem d_Multiplier_multiplyOn_49 : decode b_Multiplier_multiplyOn 49 = .ok (.lload 8, 2) := by decide +kernel
theorem d_Multiplier_multiplyOn_51 : decode b_Multiplier_multiplyOn 51 = .ok (.getstatic 45, 3) := by decide +kernel
theorem d_Multiplier_multiplyOn_54 : decode b_Multiplier_multiplyOn 54 = .ok (.iload_n 3, 1) := by decide +kernel
theorem d_Multiplier_multiplyOn_55 : decode b_Multiplier_multiplyOn 55 = .ok (.invokestatic 49, 3) := by decide +kernel
theorem d_Multiplier_multiplyOn_58 : decode b_Multiplier_multiplyOn 58 = .ok (.iaload, 1) := by decide +kernel
theorem d_Multiplier_multiplyOn_59 : decode b_Multiplier_multiplyOn 59 = .ok (.i2l, 1) := by decide +kernel
theorem d_Multiplier_multiplyOn_60 : decode b_Multiplier_multiplyOn 60 = .ok (.lcmp, 1) := by decide +kernel
theorem d_Multiplier_multiplyOn_61 : decode b_Multiplier_multiplyOn 61 = .ok (.ifCond .lt 5, 3) := by decide +kernel
theorem d_Multiplier_multiplyOn_64 : decode b_Multiplier_multiplyOn 64 = .ok (.iconst 3, 1) := by decide +kernel
theorem d_Multiplier_multiplyOn_65 : decode b_Multiplier_multiplyOn 65 = .ok (.ireturn, 1) := by decide +kernel
theorem d_Multiplier_multiplyOn_66 : decode b_Multiplier_multiplyOn 66 = .ok (.aload_n 0, 1) := by decide +kernel
theorem d_Multiplier_multiplyOn_67 : decode b_Multiplier_multiplyOn 67 = .ok (.iload_n 3, 1) := by decide +kernel
theorem d_Multiplier_multiplyOn_68 : decode b_Multiplier_multiplyOn 68 = .ok (.lload 8, 2) := by decide +kernel
theorem d_Multiplier_multiplyOn_70 : decode b_Multiplier_multiplyOn 70 = .ok (.l2i, 1) := by decide +kernel
theorem d_Multiplier_multiplyOn_71 : decode b_Multiplier_multiplyOn 71 = .ok (.invokestatic 52, 3) := by decide +kernel
theorem d_Multiplier_multiplyOn_74 : decode b_Multiplier_multiplyOn 74 = .ok (.ifCond .ne 5, 3) := by decide +kernel
theorem d_Multiplier_multiplyOn_77 : decode b_Multiplier_multiplyOn 77 = .ok (.iconst 1, 1) := by decide +kernel
theorem d_Multiplier_multiplyOn_78 : decode b_Multiplier_multiplyOn 78 = .ok (.ireturn, 1) := by decide +kernel
theorem d_Multiplier_multiplyOn_79 : decode b_Multiplier_multiplyOn 79 = .ok (.aload_n 0, 1) := by decide +kernel
theorem d_Multiplier_multiplyOn_80 : decode b_Multiplier_multiplyOn 80 = .ok (.iload_n 3, 1) := by decide +kernel
theorem d_Multiplier_multiplyOn_81 : decode b_Multiplier_multiplyOn 81 = .ok (.lload 8, 2) := by decide +kernel
theorem d_Multiplier_multiplyOn_83 : decode b_Multiplier_multiplyOn 83 = .ok (.l2i, 1) := by decide +kernel
theorem d_Multiplier_multiplyOn_84 : decode b_Multiplier_multiplyOn 84 = .ok (.invokestatic 56, 3) := by decide +kernel
theorem d_Multiplier_multiplyOn_87 : decode b_Multiplier_multiplyOn 87 = .ok (.iconst 0, 1) := by decide +kernel
theorem d_Multiplier_multiplyOn_88 : decode b_Multiplier_multiplyOn 88 = .ok (.ireturn, 1) := by decide +kernel
theorem s_Multiplier_multiplyOn : Cond.static y_Multiplier_multiplyOn ∈ nm_Ts ∧ Cond.initialized y_Multiplier_multiplyOn.cls ∈ nm_Ts ∧ Cond.code y_Multiplier_multiplyOn b_Multiplier_multiplyOn 10 (some .int) ∈ nm_Ts ∧ mz_cl1 y_Multiplier_multiplyOn 4 := ⟨nm_t3 158 rfl rfl, nm_t1 20 rfl rfl, nm_t3 159 rfl rfl, by decide +kernel⟩
def y_Multiplier_numberIn : MethodName := ⟨"CardOffice$Multiplier", "numberIn", "(LCardOffice$Card;I)J"⟩
abbrev b_Multiplier_numberIn : ByteArray := prog_8_method_4_code
def r_Multiplier_numberIn (c s : Nat) : Room := { frames := 2, cells := c, slots := s, locals := 40 }
theorem d_Multiplier_numberIn_0 : decode b_Multiplier_numberIn 0 = .ok (.lconst 0, 1) := by decide +kernel
theorem d_Multiplier_numberIn_1 : decode b_Multiplier_numberIn 1 = .ok (.lstore_n 2, 1) := by decide +kernel
theorem d_Multiplier_numberIn_2 : decode b_Multiplier_numberIn 2 = .ok (.iload_n 1, 1) := by decide +kernel
theorem d_Multiplier_numberIn_3 : decode b_Multiplier_numberIn 3 = .ok (.invokestatic 60, 3) := by decide +kernel
theorem d_Multiplier_numberIn_6 : decode b_Multiplier_numberIn 6 = .ok (.istore 4, 2) := by decide +kernel
theorem d_Multiplier_numberIn_8 : decode b_Multiplier_numberIn 8 = .ok (.iload 4, 2) := by decide +kernel
theorem d_Multiplier_numberIn_10 : decode b_Multiplier_numberIn 10 = .ok (.iload_n 1, 1) := by decide +kernel
theorem d_Multiplier_numberIn_11 : decode b_Multiplier_numberIn 11 = .ok (.invokestatic 63, 3) := by decide +kernel
theorem d_Multiplier_numberIn_14 : decode b_Multiplier_numberIn 14 = .ok (.if_icmp .ge 47, 3) := by decide +kernel
theorem d_Multiplier_numberIn_17 : decode b_Multiplier_numberIn 17 = .ok (.aload_n 0, 1) := by decide +kernel
theorem d_Multiplier_numberIn_18 : decode b_Multiplier_numberIn 18 = .ok (.getfield 66, 3) := by decide +kernel
theorem d_Multiplier_numberIn_21 : decode b_Multiplier_numberIn 21 = .ok (.iload 4, 2) := by decide +kernel
theorem d_Multiplier_numberIn_23 : decode b_Multiplier_numberIn 23 = .ok (.iaload, 1) := by decide +kernel
theorem d_Multiplier_numberIn_24 : decode b_Multiplier_numberIn 24 = .ok (.istore 5, 2) := by decide +kernel
theorem d_Multiplier_numberIn_26 : decode b_Multiplier_numberIn 26 = .ok (.iload 5, 2) := by decide +kernel
theorem d_Multiplier_numberIn_28 : decode b_Multiplier_numberIn 28 = .ok (.invokestatic 71, 3) := by decide +kernel
theorem d_Multiplier_numberIn_31 : decode b_Multiplier_numberIn 31 = .ok (.ifCond .eq 7, 3) := by decide +kernel
theorem d_Multiplier_numberIn_34 : decode b_Multiplier_numberIn 34 = .ok (.ldc2_w 39, 3) := by decide +kernel
theorem d_Multiplier_numberIn_37 : decode b_Multiplier_numberIn 37 = .ok (.lreturn, 1) := by decide +kernel
theorem d_Multiplier_numberIn_38 : decode b_Multiplier_numberIn 38 = .ok (.lload_n 2, 1) := by decide +kernel
theorem d_Multiplier_numberIn_39 : decode b_Multiplier_numberIn 39 = .ok (.ldc2_w 43, 3) := by decide +kernel
theorem d_Multiplier_numberIn_42 : decode b_Multiplier_numberIn 42 = .ok (.lmul, 1) := by decide +kernel
theorem d_Multiplier_numberIn_43 : decode b_Multiplier_numberIn 43 = .ok (.iload 5, 2) := by decide +kernel
theorem d_Multiplier_numberIn_45 : decode b_Multiplier_numberIn 45 = .ok (.invokestatic 74, 3) := by decide +kernel
theorem d_Multiplier_numberIn_48 : decode b_Multiplier_numberIn 48 = .ok (.iconst 0, 1) := by decide +kernel
theorem d_Multiplier_numberIn_49 : decode b_Multiplier_numberIn 49 = .ok (.invokestatic 77, 3) := by decide +kernel
theorem d_Multiplier_numberIn_52 : decode b_Multiplier_numberIn 52 = .ok (.i2l, 1) := by decide +kernel
theorem d_Multiplier_numberIn_53 : decode b_Multiplier_numberIn 53 = .ok (.ladd, 1) := by decide +kernel
theorem d_Multiplier_numberIn_54 : decode b_Multiplier_numberIn 54 = .ok (.lstore_n 2, 1) := by decide +kernel
theorem d_Multiplier_numberIn_55 : decode b_Multiplier_numberIn 55 = .ok (.iinc 4 1, 3) := by decide +kernel
theorem d_Multiplier_numberIn_58 : decode b_Multiplier_numberIn 58 = .ok (.goto (-50), 3) := by decide +kernel
theorem d_Multiplier_numberIn_61 : decode b_Multiplier_numberIn 61 = .ok (.lload_n 2, 1) := by decide +kernel
theorem d_Multiplier_numberIn_62 : decode b_Multiplier_numberIn 62 = .ok (.lreturn, 1) := by decide +kernel
theorem d_Multiplier_numberIn : decode b_Multiplier_numberIn 0 = .ok (.lconst 0, 1) ∧ decode b_Multiplier_numberIn 1 = .ok (.lstore_n 2, 1) ∧ decode b_Multiplier_numberIn 2 = .ok (.iload_n 1, 1) ∧ decode b_Multiplier_numberIn 3 = .ok (.invokestatic 60, 3) ∧ decode b_Multiplier_numberIn 6 = .ok (.istore 4, 2) ∧ decode b_Multiplier_numberIn 8 = .ok (.iload 4, 2) ∧ decode b_Multiplier_numberIn 10 = .ok (.iload_n 1, 1) ∧ decode b_Multiplier_numberIn 11 = .ok (.invokestatic 63, 3) ∧ decode b_Multiplier_numberIn 14 = .ok (.if_icmp .ge 47, 3) ∧ decode b_Multiplier_numberIn 17 = .ok (.aload_n 0, 1) ∧ decode b_Multiplier_numberIn 18 = .ok (.getfield 66, 3) ∧ decode b_Multiplier_numberIn 21 = .ok (.iload 4, 2) ∧ decode b_Multiplier_numberIn 23 = .ok (.iaload, 1) ∧ decode b_Multiplier_numberIn 24 = .ok (.istore 5, 2) ∧ decode b_Multiplier_numberIn 26 = .ok (.iload 5, 2) ∧ decode b_Multiplier_numberIn 28 = .ok (.invokestatic 71, 3) ∧ decode b_Multiplier_numberIn 31 = .ok (.ifCond .eq 7, 3) ∧ decode b_Multiplier_numberIn 34 = .ok (.ldc2_w 39, 3) ∧ decode b_Multiplier_numberIn 37 = .ok (.lreturn, 1) ∧ decode b_Multiplier_numberIn 38 = .ok (.lload_n 2, 1) ∧ decode b_Multiplier_numberIn 39 = .ok (.ldc2_w 43, 3) ∧ decode b_Multiplier_numberIn 42 = .ok (.lmul, 1) ∧ decode b_Multiplier_numberIn 43 = .ok (.iload 5, 2) ∧ decode b_Multiplier_numberIn 45 = .ok (.invokestatic 74, 3) ∧ decode b_Multiplier_numberIn 48 = .ok (.iconst 0, 1) ∧ decode b_Multiplier_numberIn 49 = .ok (.invokestatic 77, 3) ∧ decode b_Multiplier_numberIn 52 = .ok (.i2l, 1) ∧ decode b_Multiplier_numberIn 53 = .ok (.ladd, 1) ∧ decode b_Multiplier_numberIn 54 = .ok (.lstore_n 2, 1) ∧ decode b_Multiplier_numberIn 55 = .ok (.iinc 4 1, 3) ∧ decode b_Multiplier_numberIn 58 = .ok (.goto (-50), 3) ∧ decode b_Multiplier_numberIn 61 = .ok (.lload_n 2, 1) ∧ decode b_Multiplier_numberIn 62 = .ok (.lreturn, 1) := ⟨d_Multiplier_numberIn_0, d_Multiplier_numberIn_1, d_Multiplier_numberIn_2, d_Multiplier_numberIn_3, d_Multiplier_numberIn_6, d_Multiplier_numberIn_8, d_Multiplier_numberIn_10, d_Multiplier_numberIn_11, d_Multiplier_numberIn_14, d_Multiplier_numberIn_17, d_Multiplier_numberIn_18, d_Multiplier_numberIn_21, d_Multiplier_numberIn_23, d_Multiplier_numberIn_24, d_Multiplier_numberIn_26, d_Multiplier_numberIn_28, d_Multiplier_numberIn_31, d_Multiplier_numberIn_34, d_Multiplier_numberIn_37, d_Multiplier_numberIn_38, d_Multiplier_numberIn_39, d_Multiplier_numberIn_42, d_Multiplier_numberIn_43, d_Multiplier_numberIn_45, d_Multiplier_numberIn_48, d_Multiplier_numberIn_49, d_Multiplier_numberIn_52, d_Multiplier_numberIn_53, d_Multiplier_numberIn_54, d_Multiplier_numberIn_55, d_Multiplier_numberIn_58, d_Multiplier_numberIn_61, d_Multiplier_numberIn_62⟩
theorem s_Multiplier_numberIn : Cond.static y_Multiplier_numberIn ∈ nm_Ts ∧ Cond.initialized y_Multiplier_numberIn.cls ∈ nm_Ts ∧ Cond.code y_Multiplier_numberIn b_Multiplier_numberIn 6 (some .long) ∈ nm_Ts ∧ mz_cl1 y_Multiplier_numberIn 2 := ⟨nm_t3 161 rfl rfl, nm_t1 20 rfl rfl, nm_t3 162 rfl rfl, by decide +kernel⟩
def y_Multiplier_canTakeNumber : MethodName := ⟨"CardOffice$Multiplier", "canTakeNumber", "(LCardOffice$Card;II)Z"⟩
abbrev b_Multiplier_canTakeNumber : ByteArray := prog_8_method_5_code
def r_Multiplier_canTakeNumber (c s : Nat) : Room := { frames := 3, cells := c, slots := s, locals := 62 }
theorem d_Multiplier_canTakeNumber_0 : decode b_Multiplier_canTakeNumber 0 = .ok (.iload_n 1, 1) := by decide +kernel
theorem d_Multiplier_canTakeNumber_1 : decode b_Multiplier_canTakeNumber 1 = .ok (.invokestatic 60, 3) := by decide +kernel
theorem d_Multiplier_canTakeNumber_4 : decode b_Multiplier_canTakeNumber 4 = .ok (.istore_n 3, 1) := by decide +kernel
theorem d_Multiplier_canTakeNumber_5 : decode b_Multiplier_canTakeNumber 5 = .ok (.iload_n 3, 1) := by decide +kernel
theorem d_Multiplier_canTakeNumber_6 : decode b_Multiplier_canTakeNumber 6 = .ok (.iload_n 1, 1) := by decide +kernel
theorem d_Multiplier_canTakeNumber_7 : decode b_Multiplier_canTakeNumber 7 = .ok (.invokestatic 63, 3) := by decide +kernel
theorem d_Multiplier_canTakeNumber_10 : decode b_Multiplier_canTakeNumber 10 = .ok (.if_icmp .ge 25, 3) := by decide +kernel
theorem d_Multiplier_canTakeNumber_13 : decode b_Multiplier_canTakeNumber 13 = .ok (.aload_n 0, 1) := by decide +kernel
theorem d_Multiplier_canTakeNumber_14 : decode b_Multiplier_canTakeNumber 14 = .ok (.iload_n 3, 1) := by decide +kernel
theorem d_Multiplier_canTakeNumber_15 : decode b_Multiplier_canTakeNumber 15 = .ok (.iload_n 2, 1) := by decide +kernel
theorem d_Multiplier_canTakeNumber_16 : decode b_Multiplier_canTakeNumber 16 = .ok (.iload_n 1, 1) := by decide +kernel
theorem d_Multiplier_canTakeNumber_17 : decode b_Multiplier_canTakeNumber 17 = .ok (.iload_n 3, 1) := by decide +kernel
theorem d_Multiplier_canTakeNumber_18 : decode b_Multiplier_canTakeNumber 18 = .ok (.invokestatic 82, 3) := by decide +kernel
theorem d_Multiplier_canTakeNumber_21 : decode b_Multiplier_canTakeNumber 21 = .ok (.invokevirtual 86, 3) := by decide +kernel
theorem d_Multiplier_canTakeNumber_24 : decode b_Multiplier_canTakeNumber 24 = .ok (.ifCond .ne 5, 3) := by decide +kernel
theorem d_Multiplier_canTakeNumber_27 : decode b_Multiplier_canTakeNumber 27 = .ok (.iconst 0, 1) := by decide +kernel
theorem d_Multiplier_canTakeNumber_28 : decode b_Multiplier_canTakeNumber 28 = .ok (.ireturn, 1) := by decide +kernel
theorem d_Multiplier_canTakeNumber_29 : decode b_Multiplier_canTakeNumber 29 = .ok (.iinc 3 1, 3) := by decide +kernel
theorem d_Multiplier_canTakeNumber_32 : decode b_Multiplier_canTakeNumber 32 = .ok (.goto (-27), 3) := by decide +kernel
theorem d_Multiplier_canTakeNumber_35 : decode b_Multiplier_canTakeNumber 35 = .ok (.iconst 1, 1) := by decide +kernel
theorem d_Multiplier_canTakeNumber_36 : decode b_Multiplier_canTakeNumber 36 = .ok (.ireturn, 1) := by decide +kernel
theorem s_Multiplier_canTakeNumber : Cond.static y_Multiplier_canTakeNumber ∈ nm_Ts ∧ Cond.initialized y_Multiplier_canTakeNumber.cls ∈ nm_Ts ∧ Cond.code y_Multiplier_canTakeNumber b_Multiplier_canTakeNumber 4 (some .boolean) ∈ nm_Ts ∧ mz_cl1 y_Multiplier_canTakeNumber 3 := ⟨nm_t3 175 rfl rfl, nm_t1 20 rfl rfl, nm_t3 176 rfl rfl, by decide +kernel⟩
def y_Multiplier_signOfNumber : MethodName := ⟨"CardOffice$Multiplier", "signOfNumber", "(III)I"⟩
abbrev b_Multiplier_signOfNumber : ByteArray := prog_8_method_7_code
def r_Multiplier_signOfNumber (c s : Nat) : Room := { frames := 2, cells := c, slots := s, locals := 40 }
theorem d_Multiplier_signOfNumber_0 : decode b_Multiplier_signOfNumber 0 = .ok (.bipush 48, 2) := by decide +kernel
theorem d_Multiplier_signOfNumber_2 : decode b_Multiplier_signOfNumber 2 = .ok (.iload_n 0, 1) := by decide +kernel
theorem d_Multiplier_signOfNumber_3 : decode b_Multiplier_signOfNumber 3 = .ok (.getstatic 45, 3) := by decide +kernel
theorem d_Multiplier_signOfNumber_6 : decode b_Multiplier_signOfNumber 6 = .ok (.iload_n 1, 1) := by decide +kernel
theorem d_Multiplier_signOfNumber_7 : decode b_Multiplier_signOfNumber 7 = .ok (.invokestatic 63, 3) := by decide +kernel
theorem d_Multiplier_signOfNumber_10 : decode b_Multiplier_signOfNumber 10 = .ok (.iconst 1, 1) := by decide +kernel
theorem d_Multiplier_signOfNumber_11 : decode b_Multiplier_signOfNumber 11 = .ok (.isub, 1) := by decide +kernel
theorem d_Multiplier_signOfNumber_12 : decode b_Multiplier_signOfNumber 12 = .ok (.iload_n 2, 1) := by decide +kernel
theorem d_Multiplier_signOfNumber_13 : decode b_Multiplier_signOfNumber 13 = .ok (.isub, 1) := by decide +kernel
theorem d_Multiplier_signOfNumber_14 : decode b_Multiplier_signOfNumber 14 = .ok (.iaload, 1) := by decide +kernel
theorem d_Multiplier_signOfNumber_15 : decode b_Multiplier_signOfNumber 15 = .ok (.idiv, 1) := by decide +kernel
theorem d_Multiplier_signOfNumber_16 : decode b_Multiplier_signOfNumber 16 = .ok (.bipush 10, 2) := by decide +kernel
theorem d_Multiplier_signOfNumber_18 : decode b_Multiplier_signOfNumber 18 = .ok (.irem, 1) := by decide +kernel
theorem d_Multiplier_signOfNumber_19 : decode b_Multiplier_signOfNumber 19 = .ok (.iadd, 1) := by decide +kernel
theorem d_Multiplier_signOfNumber_20 : decode b_Multiplier_signOfNumber 20 = .ok (.ireturn, 1) := by decide +kernel
theorem s_Multiplier_signOfNumber : Cond.static y_Multiplier_signOfNumber ∈ nm_Ts ∧ Cond.initialized y_Multiplier_signOfNumber.cls ∈ nm_Ts ∧ Cond.code y_Multiplier_signOfNumber b_Multiplier_signOfNumber 3 (some .int) ∈ nm_Ts ∧ mz_cl1 y_Multiplier_signOfNumber 3 := ⟨nm_t3 178 rfl rfl, nm_t1 20 rfl rfl, nm_t3 179 rfl rfl, by decide +kernel⟩
def y_Multiplier_punchNumber : MethodName := ⟨"CardOffice$Multiplier", "punchNumber", "(LCardOffice$Card;II)V"⟩
abbrev b_Multiplier_punchNumber : ByteArray := prog_8_method_6_code
def r_Multiplier_punchNumber (c s : Nat) : Room := { frames := 3, cells := c, slots := s, locals := 62 }
theorem d_Multiplier_punchNumber_0 : decode b_Multiplier_punchNumber 0 = .ok (.iload_n 1, 1) := by decide +kernel
theorem d_Multiplier_punchNumber_1 : decode b_Multiplier_punchNumber 1 = .ok (.invokestatic 60, 3) := by decide +kernel
theorem d_Multiplier_punchNumber_4 : decode b_Multiplier_punchNumber 4 = .ok (.istore_n 3, 1) := by decide +kernel
theorem d_Multiplier_punchNumber_5 : decode b_Multiplier_punchNumber 5 = .ok (.iload_n 3, 1) := by decide +kernel
theorem d_Multiplier_punchNumber_6 : decode b_Multiplier_punchNumber 6 = .ok (.iload_n 1, 1) := by decide +kernel
theorem d_Multiplier_punchNumber_7 : decode b_Multiplier_punchNumber 7 = .ok (.invokestatic 63, 3) := by decide +kernel
theorem d_Multiplier_punchNumber_10 : decode b_Multiplier_punchNumber 10 = .ok (.if_icmp .ge 21, 3) := by decide +kernel
theorem d_Multiplier_punchNumber_13 : decode b_Multiplier_punchNumber 13 = .ok (.aload_n 0, 1) := by decide +kernel
theorem d_Multiplier_punchNumber_14 : decode b_Multiplier_punchNumber 14 = .ok (.getfield 66, 3) := by decide +kernel
theorem d_Multiplier_punchNumber_17 : decode b_Multiplier_punchNumber 17 = .ok (.iload_n 3, 1) := by decide +kernel
theorem d_Multiplier_punchNumber_18 : decode b_Multiplier_punchNumber 18 = .ok (.iload_n 2, 1) := by decide +kernel
theorem d_Multiplier_punchNumber_19 : decode b_Multiplier_punchNumber 19 = .ok (.iload_n 1, 1) := by decide +kernel
theorem d_Multiplier_punchNumber_20 : decode b_Multiplier_punchNumber 20 = .ok (.iload_n 3, 1) := by decide +kernel
theorem d_Multiplier_punchNumber_21 : decode b_Multiplier_punchNumber 21 = .ok (.invokestatic 82, 3) := by decide +kernel
theorem d_Multiplier_punchNumber_24 : decode b_Multiplier_punchNumber 24 = .ok (.iastore, 1) := by decide +kernel
theorem d_Multiplier_punchNumber_25 : decode b_Multiplier_punchNumber 25 = .ok (.iinc 3 1, 3) := by decide +kernel
theorem d_Multiplier_punchNumber_28 : decode b_Multiplier_punchNumber 28 = .ok (.goto (-23), 3) := by decide +kernel
theorem d_Multiplier_punchNumber_31 : decode b_Multiplier_punchNumber 31 = .ok (.return_, 1) := by decide +kernel
theorem s_Multiplier_punchNumber : Cond.static y_Multiplier_punchNumber ∈ nm_Ts ∧ Cond.initialized y_Multiplier_punchNumber.cls ∈ nm_Ts ∧ Cond.code y_Multiplier_punchNumber b_Multiplier_punchNumber 4 none ∈ nm_Ts ∧ mz_cl1 y_Multiplier_punchNumber 3 := ⟨nm_t3 182 rfl rfl, nm_t1 20 rfl rfl, nm_t3 183 rfl rfl, by decide +kernel⟩
def y_Office_tabulate : MethodName := ⟨"CardOffice", "tabulate", "(II)I"⟩
abbrev b_Office_tabulate : ByteArray := prog_1_method_13_code
def r_Office_tabulate (c s : Nat) : Room := { frames := 7, cells := c, slots := s, locals := 165 }
theorem d_Office_tabulate_0 : decode b_Office_tabulate 0 = .ok (.iload_n 1, 1) := by decide +kernel
theorem d_Office_tabulate_1 : decode b_Office_tabulate 1 = .ok (.invokestatic 84, 3) := by decide +kernel
theorem d_Office_tabulate_4 : decode b_Office_tabulate 4 = .ok (.ifCond .eq 10, 3) := by decide +kernel
theorem d_Office_tabulate_7 : decode b_Office_tabulate 7 = .ok (.iload_n 2, 1) := by decide +kernel
theorem d_Office_tabulate_8 : decode b_Office_tabulate 8 = .ok (.invokestatic 62, 3) := by decide +kernel
theorem d_Office_tabulate_11 : decode b_Office_tabulate 11 = .ok (.ifCond .ne 13, 3) := by decide +kernel
theorem d_Office_tabulate_14 : decode b_Office_tabulate 14 = .ok (.new 109, 3) := by decide +kernel
theorem d_Office_tabulate_17 : decode b_Office_tabulate 17 = .ok (.dup, 1) := by decide +kernel
theorem d_Office_tabulate_18 : decode b_Office_tabulate 18 = .ok (.ldc 178, 2) := by decide +kernel
theorem d_Office_tabulate_20 : decode b_Office_tabulate 20 = .ok (.invokespecial 113, 3) := by decide +kernel
theorem d_Office_tabulate_23 : decode b_Office_tabulate 23 = .ok (.athrow, 1) := by decide +kernel
theorem d_Office_tabulate_24 : decode b_Office_tabulate 24 = .ok (.aload_n 0, 1) := by decide +kernel
theorem d_Office_tabulate_25 : decode b_Office_tabulate 25 = .ok (.getfield 56, 3) := by decide +kernel
theorem d_Office_tabulate_28 : decode b_Office_tabulate 28 = .ok (.aload_n 0, 1) := by decide +kernel
theorem d_Office_tabulate_29 : decode b_Office_tabulate 29 = .ok (.getfield 17, 3) := by decide +kernel
theorem d_Office_tabulate_32 : decode b_Office_tabulate 32 = .ok (.iload_n 1, 1) := by decide +kernel
theorem d_Office_tabulate_33 : decode b_Office_tabulate 33 = .ok (.aaload, 1) := by decide +kernel
theorem d_Office_tabulate_34 : decode b_Office_tabulate 34 = .ok (.aload_n 0, 1) := by decide +kernel
theorem d_Office_tabulate_35 : decode b_Office_tabulate 35 = .ok (.getfield 11, 3) := by decide +kernel
theorem d_Office_tabulate_38 : decode b_Office_tabulate 38 = .ok (.iload_n 2, 1) := by decide +kernel
theorem d_Office_tabulate_39 : decode b_Office_tabulate 39 = .ok (.aaload, 1) := by decide +kernel
theorem d_Office_tabulate_40 : decode b_Office_tabulate 40 = .ok (.aload_n 0, 1) := by decide +kernel
theorem d_Office_tabulate_41 : decode b_Office_tabulate 41 = .ok (.getfield 28, 3) := by decide +kernel
theorem d_Office_tabulate_44 : decode b_Office_tabulate 44 = .ok (.invokevirtual 180, 3) := by decide +kernel
theorem d_Office_tabulate_47 : decode b_Office_tabulate 47 = .ok (.ireturn, 1) := by decide +kernel
theorem d_Office_tabulate : decode b_Office_tabulate 0 = .ok (.iload_n 1, 1) ∧ decode b_Office_tabulate 1 = .ok (.invokestatic 84, 3) ∧ decode b_Office_tabulate 4 = .ok (.ifCond .eq 10, 3) ∧ decode b_Office_tabulate 7 = .ok (.iload_n 2, 1) ∧ decode b_Office_tabulate 8 = .ok (.invokestatic 62, 3) ∧ decode b_Office_tabulate 11 = .ok (.ifCond .ne 13, 3) ∧ decode b_Office_tabulate 14 = .ok (.new 109, 3) ∧ decode b_Office_tabulate 17 = .ok (.dup, 1) ∧ decode b_Office_tabulate 18 = .ok (.ldc 178, 2) ∧ decode b_Office_tabulate 20 = .ok (.invokespecial 113, 3) ∧ decode b_Office_tabulate 23 = .ok (.athrow, 1) ∧ decode b_Office_tabulate 24 = .ok (.aload_n 0, 1) ∧ decode b_Office_tabulate 25 = .ok (.getfield 56, 3) ∧ decode b_Office_tabulate 28 = .ok (.aload_n 0, 1) ∧ decode b_Office_tabulate 29 = .ok (.getfield 17, 3) ∧ decode b_Office_tabulate 32 = .ok (.iload_n 1, 1) ∧ decode b_Office_tabulate 33 = .ok (.aaload, 1) ∧ decode b_Office_tabulate 34 = .ok (.aload_n 0, 1) ∧ decode b_Office_tabulate 35 = .ok (.getfield 11, 3) ∧ decode b_Office_tabulate 38 = .ok (.iload_n 2, 1) ∧ decode b_Office_tabulate 39 = .ok (.aaload, 1) ∧ decode b_Office_tabulate 40 = .ok (.aload_n 0, 1) ∧ decode b_Office_tabulate 41 = .ok (.getfield 28, 3) ∧ decode b_Office_tabulate 44 = .ok (.invokevirtual 180, 3) ∧ decode b_Office_tabulate 47 = .ok (.ireturn, 1) := ⟨d_Office_tabulate_0, d_Office_tabulate_1, d_Office_tabulate_4, d_Office_tabulate_7, d_Office_tabulate_8, d_Office_tabulate_11, d_Office_tabulate_14, d_Office_tabulate_17, d_Office_tabulate_18, d_Office_tabulate_20, d_Office_tabulate_23, d_Office_tabulate_24, d_Office_tabulate_25, d_Office_tabulate_28, d_Office_tabulate_29, d_Office_tabulate_32, d_Office_tabulate_33, d_Office_tabulate_34, d_Office_tabulate_35, d_Office_tabulate_38, d_Office_tabulate_39, d_Office_tabulate_40, d_Office_tabulate_41, d_Office_tabulate_44, d_Office_tabulate_47⟩
theorem v_Office_tabulate : Cond.instanceMethod y_Office_tabulate ∈ nm_Ts ∧ Cond.selects y_Office_tabulate.cls y_Office_tabulate y_Office_tabulate ∈ nm_Ts ∧ Cond.initialized y_Office_tabulate.cls ∈ nm_Ts ∧ Cond.code y_Office_tabulate b_Office_tabulate 3 (some .int) ∈ nm_Ts ∧ mz_cl1 y_Office_tabulate 2 := ⟨nm_t3 190 rfl rfl, nm_t3 191 rfl rfl, nm_t1 1 rfl rfl, nm_t3 192 rfl rfl, by decide +kernel⟩
def y_Tabulator_goThrough : MethodName := ⟨"CardOffice$Tabulator", "goThrough", "(LCardOffice$Board;LCardOffice$Deck;LCardOffice$FaultLight;)I"⟩
abbrev b_Tabulator_goThrough : ByteArray := prog_12_method_2_code
def r_Tabulator_goThrough (c s : Nat) : Room := { frames := 6, cells := c, slots := s, locals := 137 }
theorem d_Tabulator_goThrough_0 : decode b_Tabulator_goThrough 0 = .ok (.aload_n 0, 1) := by decide +kernel
theorem d_Tabulator_goThrough_1 : decode b_Tabulator_goThrough 1 = .ok (.getfield 9, 3) := by decide +kernel
theorem d_Tabulator_goThrough_4 : decode b_Tabulator_goThrough 4 = .ok (.iconst 0, 1) := by decide +kernel
theorem d_Tabulator_goThrough_5 : decode b_Tabulator_goThrough 5 = .ok (.invokestatic 37, 3) := by decide +kernel
theorem d_Tabulator_goThrough_8 : decode b_Tabulator_goThrough 8 = .ok (.aload_n 1, 1) := by decide +kernel
theorem d_Tabulator_goThrough_9 : decode b_Tabulator_goThrough 9 = .ok (.invokevirtual 43, 3) := by decide +kernel
theorem d_Tabulator_goThrough_12 : decode b_Tabulator_goThrough 12 = .ok (.istore 4, 2) := by decide +kernel
theorem d_Tabulator_goThrough_14 : decode b_Tabulator_goThrough 14 = .ok (.iconst 0, 1) := by decide +kernel
theorem d_Tabulator_goThrough_15 : decode b_Tabulator_goThrough 15 = .ok (.istore 5, 2) := by decide +kernel
theorem d_Tabulator_goThrough_17 : decode b_Tabulator_goThrough 17 = .ok (.iload 5, 2) := by decide +kernel
theorem d_Tabulator_goThrough_19 : decode b_Tabulator_goThrough 19 = .ok (.aload_n 2, 1) := by decide +kernel
theorem d_Tabulator_goThrough_20 : decode b_Tabulator_goThrough 20 = .ok (.getfield 49, 3) := by decide +kernel
theorem d_Tabulator_goThrough_23 : decode b_Tabulator_goThrough 23 = .ok (.if_icmp .ge 82, 3) := by decide +kernel
theorem d_Tabulator_goThrough_26 : decode b_Tabulator_goThrough 26 = .ok (.aload_n 2, 1) := by decide +kernel
theorem d_Tabulator_goThrough_27 : decode b_Tabulator_goThrough 27 = .ok (.iload 5, 2) := by decide +kernel
theorem d_Tabulator_goThrough_29 : decode b_Tabulator_goThrough 29 = .ok (.invokevirtual 55, 3) := by decide +kernel
theorem d_Tabulator_goThrough_32 : decode b_Tabulator_goThrough 32 = .ok (.astore 6, 2) := by decide +kernel
theorem d_Tabulator_goThrough_34 : decode b_Tabulator_goThrough 34 = .ok (.iload 5, 2) := by decide +kernel
theorem d_Tabulator_goThrough_36 : decode b_Tabulator_goThrough 36 = .ok (.ifCond .ne 7, 3) := by decide +kernel
theorem d_Tabulator_goThrough_39 : decode b_Tabulator_goThrough 39 = .ok (.iconst 0, 1) := by decide +kernel
theorem d_Tabulator_goThrough_40 : decode b_Tabulator_goThrough 40 = .ok (.goto 17, 3) := by decide +kernel
theorem d_Tabulator_goThrough_43 : decode b_Tabulator_goThrough 43 = .ok (.aload_n 1, 1) := by decide +kernel
theorem d_Tabulator_goThrough_44 : decode b_Tabulator_goThrough 44 = .ok (.aload_n 2, 1) := by decide +kernel
theorem d_Tabulator_goThrough_45 : decode b_Tabulator_goThrough 45 = .ok (.iload 5, 2) := by decide +kernel
theorem d_Tabulator_goThrough_47 : decode b_Tabulator_goThrough 47 = .ok (.iconst 1, 1) := by decide +kernel
theorem d_Tabulator_goThrough_48 : decode b_Tabulator_goThrough 48 = .ok (.isub, 1) := by decide +kernel
theorem d_Tabulator_goThrough_49 : decode b_Tabulator_goThrough 49 = .ok (.invokevirtual 55, 3) := by decide +kernel
theorem d_Tabulator_goThrough_52 : decode b_Tabulator_goThrough 52 = .ok (.aload 6, 2) := by decide +kernel
theorem d_Tabulator_goThrough_54 : decode b_Tabulator_goThrough 54 = .ok (.invokevirtual 59, 3) := by decide +kernel
theorem d_Tabulator_goThrough_57 : decode b_Tabulator_goThrough 57 = .ok (.istore 7, 2) := by decide +kernel
theorem d_Tabulator_goThrough_59 : decode b_Tabulator_goThrough 59 = .ok (.aload_n 0, 1) := by decide +kernel
theorem d_Tabulator_goThrough_60 : decode b_Tabulator_goThrough 60 = .ok (.aload_n 1, 1) := by decide +kernel
theorem d_Tabulator_goThrough_61 : decode b_Tabulator_goThrough 61 = .ok (.aload 6, 2) := by decide +kernel
theorem d_Tabulator_goThrough_63 : decode b_Tabulator_goThrough 63 = .ok (.iload 7, 2) := by decide +kernel
theorem d_Tabulator_goThrough_65 : decode b_Tabulator_goThrough 65 = .ok (.iload 4, 2) := by decide +kernel
theorem d_Tabulator_goThrough_67 : decode b_Tabulator_goThrough 67 = .ok (.invokevirtual 63, 3) := by decide +kernel
theorem d_Tabulator_goThrough_70 : decode b_Tabulator_goThrough 70 = .ok (.istore 8, 2) := by decide +kernel
theorem d_Tabulator_goThrough_72 : decode b_Tabulator_goThrough 72 = .ok (.iload 8, 2) := by decide +kernel
theorem d_Tabulator_goThrough_74 : decode b_Tabulator_goThrough 74 = .ok (.ifCond .eq 12, 3) := by decide +kernel
theorem d_Tabulator_goThrough_77 : decode b_Tabulator_goThrough 77 = .ok (.aload_n 3, 1) := by decide +kernel
theorem d_Tabulator_goThrough_78 : decode b_Tabulator_goThrough 78 = .ok (.iload 8, 2) := by decide +kernel
theorem d_Tabulator_goThrough_80 : decode b_Tabulator_goThrough 80 = .ok (.iload 5, 2) := by decide +kernel
theorem d_Tabulator_goThrough_82 : decode b_Tabulator_goThrough 82 = .ok (.invokevirtual 67, 3) := by decide +kernel
theorem d_Tabulator_goThrough_85 : decode b_Tabulator_goThrough 85 = .ok (.ireturn, 1) := by decide +kernel
theorem d_Tabulator_goThrough_86 : decode b_Tabulator_goThrough 86 = .ok (.aload_n 0, 1) := by decide +kernel
theorem d_Tabulator_goThrough_87 : decode b_Tabulator_goThrough 87 = .ok (.aload_n 1, 1) := by decide +kernel
theorem d_Tabulator_goThrough_88 : decode b_Tabulator_goThrough 88 = .ok (.iload 7, 2) := by decide +kernel
theorem d_Tabulator_goThrough_90 : decode b_Tabulator_goThrough 90 = .ok (.invokevirtual 73, 3) := by decide +kernel
theorem d_Tabulator_goThrough_93 : decode b_Tabulator_goThrough 93 = .ok (.aload_n 0, 1) := by decide +kernel
theorem d_Tabulator_goThrough_94 : decode b_Tabulator_goThrough 94 = .ok (.iload 4, 2) := by decide +kernel
theorem d_Tabulator_goThrough_96 : decode b_Tabulator_goThrough 96 = .ok (.invokevirtual 77, 3) := by decide +kernel
theorem d_Tabulator_goThrough_99 : decode b_Tabulator_goThrough 99 = .ok (.iinc 5 1, 3) := by decide +kernel
theorem d_Tabulator_goThrough_102 : decode b_Tabulator_goThrough 102 = .ok (.goto (-85), 3) := by decide +kernel
theorem d_Tabulator_goThrough_105 : decode b_Tabulator_goThrough 105 = .ok (.aload_n 0, 1) := by decide +kernel
theorem d_Tabulator_goThrough_106 : decode b_Tabulator_goThrough 106 = .ok (.aload_n 1, 1) := by decide +kernel
theorem d_Tabulator_goThrough_107 : decode b_Tabulator_goThrough 107 = .ok (.aload_n 2, 1) := by decide +kernel
theorem d_Tabulator_goThrough_108 : decode b_Tabulator_goThrough 108 = .ok (.getfield 49, 3) := by decide +kernel
theorem d_Tabulator_goThrough_111 : decode b_Tabulator_goThrough 111 = .ok (.aload_n 3, 1) := by decide +kernel
theorem d_Tabulator_goThrough_112 : decode b_Tabulator_goThrough 112 = .ok (.invokevirtual 81, 3) := by decide +kernel
theorem d_Tabulator_goThrough_115 : decode b_Tabulator_goThrough 115 = .ok (.ireturn, 1) := by decide +kernel
theorem v_Tabulator_goThrough : Cond.instanceMethod y_Tabulator_goThrough ∈ nm_Ts ∧ Cond.selects y_Tabulator_goThrough.cls y_Tabulator_goThrough y_Tabulator_goThrough ∈ nm_Ts ∧ Cond.initialized y_Tabulator_goThrough.cls ∈ nm_Ts ∧ Cond.code y_Tabulator_goThrough b_Tabulator_goThrough 9 (some .int) ∈ nm_Ts ∧ mz_cl1 y_Tabulator_goThrough 3 := ⟨nm_t3 195 rfl rfl, nm_t3 196 rfl rfl, nm_t1 8 rfl rfl, nm_t3 197 rfl rfl, by decide +kernel⟩
def y_Board_isListing : MethodName := ⟨"CardOffice$Board", "isListing", "()Z"⟩
abbrev b_Board_isListing : ByteArray := prog_2_method_12_code
def r_Board_isListing (c s : Nat) : Room := { frames := 0, cells := c, slots := s, locals := 0 }
theorem d_Board_isListing_0 : decode b_Board_isListing 0 = .ok (.iconst 0, 1) := by decide +kernel
theorem d_Board_isListing_1 : decode b_Board_isListing 1 = .ok (.istore_n 1, 1) := by decide +kernel
theorem d_Board_isListing_2 : decode b_Board_isListing 2 = .ok (.iload_n 1, 1) := by decide +kernel
theorem d_Board_isListing_3 : decode b_Board_isListing 3 = .ok (.aload_n 0, 1) := by decide +kernel
theorem d_Board_isListing_4 : decode b_Board_isListing 4 = .ok (.getfield 27, 3) := by decide +kernel
theorem d_Board_isListing_7 : decode b_Board_isListing 7 = .ok (.if_icmp .ge 22, 3) := by decide +kernel
theorem d_Board_isListing_10 : decode b_Board_isListing 10 = .ok (.aload_n 0, 1) := by decide +kernel
theorem d_Board_isListing_11 : decode b_Board_isListing 11 = .ok (.getfield 15, 3) := by decide +kernel
theorem d_Board_isListing_14 : decode b_Board_isListing 14 = .ok (.iload_n 1, 1) := by decide +kernel
theorem d_Board_isListing_15 : decode b_Board_isListing 15 = .ok (.iaload, 1) := by decide +kernel
theorem d_Board_isListing_16 : decode b_Board_isListing 16 = .ok (.bipush 99, 2) := by decide +kernel
theorem d_Board_isListing_18 : decode b_Board_isListing 18 = .ok (.if_icmp .ne 5, 3) := by decide +kernel
theorem d_Board_isListing_21 : decode b_Board_isListing 21 = .ok (.iconst 1, 1) := by decide +kernel
theorem d_Board_isListing_22 : decode b_Board_isListing 22 = .ok (.ireturn, 1) := by decide +kernel
theorem d_Board_isListing_23 : decode b_Board_isListing 23 = .ok (.iinc 1 1, 3) := by decide +kernel
theorem d_Board_isListing_26 : decode b_Board_isListing 26 = .ok (.goto (-24), 3) := by decide +kernel
theorem d_Board_isListing_29 : decode b_Board_isListing 29 = .ok (.iconst 0, 1) := by decide +kernel
theorem d_Board_isListing_30 : decode b_Board_isListing 30 = .ok (.ireturn, 1) := by decide +kernel
theorem v_Board_isListing : Cond.instanceMethod y_Board_isListing ∈ nm_Ts ∧ Cond.selects y_Board_isListing.cls y_Board_isListing y_Board_isListing ∈ nm_Ts ∧ Cond.initialized y_Board_isListing.cls ∈ nm_Ts ∧ Cond.code y_Board_isListing b_Board_isListing 2 (some .boolean) ∈ nm_Ts ∧ mz_cl1 y_Board_isListing 0 := ⟨nm_t3 200 rfl rfl, nm_t3 201 rfl rfl, nm_t1 10 rfl rfl, nm_t3 202 rfl rfl, by decide +kernel⟩
def y_Board_levelsBroken : MethodName := ⟨"CardOffice$Board", "levelsBroken", "(LCardOffice$Card;LCardOffice$Card;)I"⟩
abbrev b_Board_levelsBroken : ByteArray := prog_2_method_11_code
def r_Board_levelsBroken (c s : Nat) : Room := { frames := 1, cells := c, slots := s, locals := 21 }
theorem d_Board_levelsBroken_0 : decode b_Board_levelsBroken 0 = .ok (.iconst 0, 1) := by decide +kernel
theorem d_Board_levelsBroken_1 : decode b_Board_levelsBroken 1 = .ok (.istore_n 3, 1) := by decide +kernel
theorem d_Board_levelsBroken_2 : decode b_Board_levelsBroken 2 = .ok (.iconst 0, 1) := by decide +kernel
theorem d_Board_levelsBroken_3 : decode b_Board_levelsBroken 3 = .ok (.istore 4, 2) := by decide +kernel
theorem d_Board_levelsBroken_5 : decode b_Board_levelsBroken 5 = .ok (.iload 4, 2) := by decide +kernel
theorem d_Board_levelsBroken_7 : decode b_Board_levelsBroken 7 = .ok (.aload_n 0, 1) := by decide +kernel
theorem d_Board_levelsBroken_8 : decode b_Board_levelsBroken 8 = .ok (.getfield 27, 3) := by decide +kernel
theorem d_Board_levelsBroken_11 : decode b_Board_levelsBroken 11 = .ok (.if_icmp .ge 101, 3) := by decide +kernel
theorem d_Board_levelsBroken_14 : decode b_Board_levelsBroken 14 = .ok (.aload_n 0, 1) := by decide +kernel
theorem d_Board_levelsBroken_15 : decode b_Board_levelsBroken 15 = .ok (.getfield 15, 3) := by decide +kernel
theorem d_Board_levelsBroken_18 : decode b_Board_levelsBroken 18 = .ok (.iload 4, 2) := by decide +kernel
theorem d_Board_levelsBroken_20 : decode b_Board_levelsBroken 20 = .ok (.iaload, 1) := by decide +kernel
theorem d_Board_levelsBroken_21 : decode b_Board_levelsBroken 21 = .ok (.bipush 96, 2) := by decide +kernel
theorem d_Board_levelsBroken_23 : decode b_Board_levelsBroken 23 = .ok (.if_icmp .lt 19, 3) := by decide +kernel
theorem d_Board_levelsBroken_26 : decode b_Board_levelsBroken 26 = .ok (.aload_n 0, 1) := by decide +kernel
theorem d_Board_levelsBroken_27 : decode b_Board_levelsBroken 27 = .ok (.getfield 15, 3) := by decide +kernel
theorem d_Board_levelsBroken_30 : decode b_Board_levelsBroken 30 = .ok (.iload 4, 2) := by decide +kernel
theorem d_Board_levelsBroken_32 : decode b_Board_levelsBroken 32 = .ok (.iaload, 1) := by decide +kernel
theorem d_Board_levelsBroken_33 : decode b_Board_levelsBroken 33 = .ok (.bipush 99, 2) := by decide +kernel
theorem d_Board_levelsBroken_35 : decode b_Board_levelsBroken 35 = .ok (.if_icmp .ge 7, 3) := by decide +kernel
theorem d_Board_levelsBroken_38 : decode b_Board_levelsBroken 38 = .ok (.iconst 1, 1) := by decide +kernel
theorem d_Board_levelsBroken_39 : decode b_Board_levelsBroken 39 = .ok (.goto 4, 3) := by decide +kernel
theorem d_Board_levelsBroken_42 : decode b_Board_levelsBroken 42 = .ok (.iconst 0, 1) := by decide +kernel
theorem d_Board_levelsBroken_43 : decode b_Board_levelsBroken 43 = .ok (.istore 5, 2) := by decide +kernel
theorem d_Board_levelsBroken_45 : decode b_Board_levelsBroken 45 = .ok (.iload 5, 2) := by decide +kernel
theorem d_Board_levelsBroken_47 : decode b_Board_levelsBroken 47 = .ok (.ifCond .eq 59, 3) := by decide +kernel
theorem d_Board_levelsBroken_50 : decode b_Board_levelsBroken 50 = .ok (.aload_n 0, 1) := by decide +kernel
theorem d_Board_levelsBroken_51 : decode b_Board_levelsBroken 51 = .ok (.getfield 9, 3) := by decide +kernel
theorem d_Board_levelsBroken_54 : decode b_Board_levelsBroken 54 = .ok (.iload 4, 2) := by decide +kernel
theorem d_Board_levelsBroken_56 : decode b_Board_levelsBroken 56 = .ok (.iaload, 1) := by decide +kernel
theorem d_Board_levelsBroken_57 : decode b_Board_levelsBroken 57 = .ok (.bipush 16, 2) := by decide +kernel
theorem d_Board_levelsBroken_59 : decode b_Board_levelsBroken 59 = .ok (.if_icmp .ge 47, 3) := by decide +kernel
theorem d_Board_levelsBroken_62 : decode b_Board_levelsBroken 62 = .ok (.aload_n 2, 1) := by decide +kernel
theorem d_Board_levelsBroken_63 : decode b_Board_levelsBroken 63 = .ok (.getfield 35, 3) := by decide +kernel
theorem d_Board_levelsBroken_66 : decode b_Board_levelsBroken 66 = .ok (.aload_n 0, 1) := by decide +kernel
theorem d_Board_levelsBroken_67 : decode b_Board_levelsBroken 67 = .ok (.getfield 9, 3) := by decide +kernel
theorem d_Board_levelsBroken_70 : decode b_Board_levelsBroken 70 = .ok (.iload 4, 2) := by decide +kernel
theorem d_Board_levelsBroken_72 : decode b_Board_levelsBroken 72 = .ok (.iaload, 1) := by decide +kernel
theorem d_Board_levelsBroken_73 : decode b_Board_levelsBroken 73 = .ok (.iaload, 1) := by decide +kernel
theorem d_Board_levelsBroken_74 : decode b_Board_levelsBroken 74 = .ok (.aload_n 1, 1) := by decide +kernel
theorem d_Board_levelsBroken_75 : decode b_Board_levelsBroken 75 = .ok (.getfield 35, 3) := by decide +kernel
theorem d_Board_levelsBroken_78 : decode b_Board_levelsBroken 78 = .ok (.aload_n 0, 1) := by decide +kernel
theorem d_Board_levelsBroken_79 : decode b_Board_levelsBroken 79 = .ok (.getfield 9, 3) := by decide +kernel
theorem d_Board_levelsBroken_82 : decode b_Board_levelsBroken 82 = .ok (.iload 4, 2) := by decide +kernel
theorem d_Board_levelsBroken_84 : decode b_Board_levelsBroken 84 = .ok (.iaload, 1) := by decide +kernel
theorem d_Board_levelsBroken_85 : decode b_Board_levelsBroken 85 = .ok (.iaload, 1) := by decide +kernel
theorem d_Board_levelsBroken_86 : decode b_Board_levelsBroken 86 = .ok (.if_icmp .eq 20, 3) := by decide +kernel
theorem d_Board_levelsBroken_89 : decode b_Board_levelsBroken 89 = .ok (.iload_n 3, 1) := by decide +kernel
theorem d_Board_levelsBroken_90 : decode b_Board_levelsBroken 90 = .ok (.aload_n 0, 1) := by decide +kernel
theorem d_Board_levelsBroken_91 : decode b_Board_levelsBroken 91 = .ok (.getfield 15, 3) := by decide +kernel
theorem d_Board_levelsBroken_94 : decode b_Board_levelsBroken 94 = .ok (.iload 4, 2) := by decide +kernel
theorem d_Board_levelsBroken_96 : decode b_Board_levelsBroken 96 = .ok (.iaload, 1) := by decide +kernel
theorem d_Board_levelsBroken_97 : decode b_Board_levelsBroken 97 = .ok (.bipush 96, 2) := by decide +kernel
theorem d_Board_levelsBroken_99 : decode b_Board_levelsBroken 99 = .ok (.isub, 1) := by decide +kernel
theorem d_Board_levelsBroken_100 : decode b_Board_levelsBroken 100 = .ok (.iconst 1, 1) := by decide +kernel
theorem d_Board_levelsBroken_101 : decode b_Board_levelsBroken 101 = .ok (.iadd, 1) := by decide +kernel
theorem d_Board_levelsBroken_102 : decode b_Board_levelsBroken 102 = .ok (.invokestatic 70, 3) := by decide +kernel
theorem d_Board_levelsBroken_105 : decode b_Board_levelsBroken 105 = .ok (.istore_n 3, 1) := by decide +kernel
theorem d_Board_levelsBroken_106 : decode b_Board_levelsBroken 106 = .ok (.iinc 4 1, 3) := by decide +kernel
theorem d_Board_levelsBroken_109 : decode b_Board_levelsBroken 109 = .ok (.goto (-104), 3) := by decide +kernel
theorem d_Board_levelsBroken_112 : decode b_Board_levelsBroken 112 = .ok (.iload_n 3, 1) := by decide +kernel
theorem d_Board_levelsBroken_113 : decode b_Board_levelsBroken 113 = .ok (.ireturn, 1) := by decide +kernel
theorem d_Board_levelsBroken : decode b_Board_levelsBroken 0 = .ok (.iconst 0, 1) ∧ decode b_Board_levelsBroken 1 = .ok (.istore_n 3, 1) ∧ decode b_Board_levelsBroken 2 = .ok (.iconst 0, 1) ∧ decode b_Board_levelsBroken 3 = .ok (.istore 4, 2) ∧ decode b_Board_levelsBroken 5 = .ok (.iload 4, 2) ∧ decode b_Board_levelsBroken 7 = .ok (.aload_n 0, 1) ∧ decode b_Board_levelsBroken 8 = .ok (.getfield 27, 3) ∧ decode b_Board_levelsBroken 11 = .ok (.if_icmp .ge 101, 3) ∧ decode b_Board_levelsBroken 14 = .ok (.aload_n 0, 1) ∧ decode b_Board_levelsBroken 15 = .ok (.getfield 15, 3) ∧ decode b_Board_levelsBroken 18 = .ok (.iload 4, 2) ∧ decode b_Board_levelsBroken 20 = .ok (.iaload, 1) ∧ decode b_Board_levelsBroken 21 = .ok (.bipush 96, 2) ∧ decode b_Board_levelsBroken 23 = .ok (.if_icmp .lt 19, 3) ∧ decode b_Board_levelsBroken 26 = .ok (.aload_n 0, 1) ∧ decode b_Board_levelsBroken 27 = .ok (.getfield 15, 3) ∧ decode b_Board_levelsBroken 30 = .ok (.iload 4, 2) ∧ decode b_Board_levelsBroken 32 = .ok (.iaload, 1) ∧ decode b_Board_levelsBroken 33 = .ok (.bipush 99, 2) ∧ decode b_Board_levelsBroken 35 = .ok (.if_icmp .ge 7, 3) ∧ decode b_Board_levelsBroken 38 = .ok (.iconst 1, 1) ∧ decode b_Board_levelsBroken 39 = .ok (.goto 4, 3) ∧ decode b_Board_levelsBroken 42 = .ok (.iconst 0, 1) ∧ decode b_Board_levelsBroken 43 = .ok (.istore 5, 2) ∧ decode b_Board_levelsBroken 45 = .ok (.iload 5, 2) ∧ decode b_Board_levelsBroken 47 = .ok (.ifCond .eq 59, 3) ∧ decode b_Board_levelsBroken 50 = .ok (.aload_n 0, 1) ∧ decode b_Board_levelsBroken 51 = .ok (.getfield 9, 3) ∧ decode b_Board_levelsBroken 54 = .ok (.iload 4, 2) ∧ decode b_Board_levelsBroken 56 = .ok (.iaload, 1) ∧ decode b_Board_levelsBroken 57 = .ok (.bipush 16, 2) ∧ decode b_Board_levelsBroken 59 = .ok (.if_icmp .ge 47, 3) ∧ decode b_Board_levelsBroken 62 = .ok (.aload_n 2, 1) ∧ decode b_Board_levelsBroken 63 = .ok (.getfield 35, 3) ∧ decode b_Board_levelsBroken 66 = .ok (.aload_n 0, 1) ∧ decode b_Board_levelsBroken 67 = .ok (.getfield 9, 3) ∧ decode b_Board_levelsBroken 70 = .ok (.iload 4, 2) ∧ decode b_Board_levelsBroken 72 = .ok (.iaload, 1) ∧ decode b_Board_levelsBroken 73 = .ok (.iaload, 1) ∧ decode b_Board_levelsBroken 74 = .ok (.aload_n 1, 1) ∧ decode b_Board_levelsBroken 75 = .ok (.getfield 35, 3) ∧ decode b_Board_levelsBroken 78 = .ok (.aload_n 0, 1) ∧ decode b_Board_levelsBroken 79 = .ok (.getfield 9, 3) ∧ decode b_Board_levelsBroken 82 = .ok (.iload 4, 2) ∧ decode b_Board_levelsBroken 84 = .ok (.iaload, 1) ∧ decode b_Board_levelsBroken 85 = .ok (.iaload, 1) ∧ decode b_Board_levelsBroken 86 = .ok (.if_icmp .eq 20, 3) ∧ decode b_Board_levelsBroken 89 = .ok (.iload_n 3, 1) ∧ decode b_Board_levelsBroken 90 = .ok (.aload_n 0, 1) ∧ decode b_Board_levelsBroken 91 = .ok (.getfield 15, 3) ∧ decode b_Board_levelsBroken 94 = .ok (.iload 4, 2) ∧ decode b_Board_levelsBroken 96 = .ok (.iaload, 1) ∧ decode b_Board_levelsBroken 97 = .ok (.bipush 96, 2) ∧ decode b_Board_levelsBroken 99 = .ok (.isub, 1) ∧ decode b_Board_levelsBroken 100 = .ok (.iconst 1, 1) ∧ decode b_Board_levelsBroken 101 = .ok (.iadd, 1) ∧ decode b_Board_levelsBroken 102 = .ok (.invokestatic 70, 3) ∧ decode b_Board_levelsBroken 105 = .ok (.istore_n 3, 1) ∧ decode b_Board_levelsBroken 106 = .ok (.iinc 4 1, 3) ∧ decode b_Board_levelsBroken 109 = .ok (.goto (-104), 3) ∧ decode b_Board_levelsBroken 112 = .ok (.iload_n 3, 1) ∧ decode b_Board_levelsBroken 113 = .ok (.ireturn, 1) := ⟨d_Board_levelsBroken_0, d_Board_levelsBroken_1, d_Board_levelsBroken_2, d_Board_levelsBroken_3, d_Board_levelsBroken_5, d_Board_levelsBroken_7, d_Board_levelsBroken_8, d_Board_levelsBroken_11, d_Board_levelsBroken_14, d_Board_levelsBroken_15, d_Board_levelsBroken_18, d_Board_levelsBroken_20, d_Board_levelsBroken_21, d_Board_levelsBroken_23, d_Board_levelsBroken_26, d_Board_levelsBroken_27, d_Board_levelsBroken_30, d_Board_levelsBroken_32, d_Board_levelsBroken_33, d_Board_levelsBroken_35, d_Board_levelsBroken_38, d_Board_levelsBroken_39, d_Board_levelsBroken_42, d_Board_levelsBroken_43, d_Board_levelsBroken_45, d_Board_levelsBroken_47, d_Board_levelsBroken_50, d_Board_levelsBroken_51, d_Board_levelsBroken_54, d_Board_levelsBroken_56, d_Board_levelsBroken_57, d_Board_levelsBroken_59, d_Board_levelsBroken_62, d_Board_levelsBroken_63, d_Board_levelsBroken_66, d_Board_levelsBroken_67, d_Board_levelsBroken_70, d_Board_levelsBroken_72, d_Board_levelsBroken_73, d_Board_levelsBroken_74, d_Board_levelsBroken_75, d_Board_levelsBroken_78, d_Board_levelsBroken_79, d_Board_levelsBroken_82, d_Board_levelsBroken_84, d_Board_levelsBroken_85, d_Board_levelsBroken_86, d_Board_levelsBroken_89, d_Board_levelsBroken_90, d_Board_levelsBroken_91, d_Board_levelsBroken_94, d_Board_levelsBroken_96, d_Board_levelsBroken_97, d_Board_levelsBroken_99, d_Board_levelsBroken_100, d_Board_levelsBroken_101, d_Board_levelsBroken_102, d_Board_levelsBroken_105, d_Board_levelsBroken_106, d_Board_levelsBroken_109, d_Board_levelsBroken_112, d_Board_levelsBroken_113⟩
theorem v_Board_levelsBroken : Cond.instanceMethod y_Board_levelsBroken ∈ nm_Ts ∧ Cond.selects y_Board_levelsBroken.cls y_Board_levelsBroken y_Board_levelsBroken ∈ nm_Ts ∧ Cond.initialized y_Board_levelsBroken.cls ∈ nm_Ts ∧ Cond.code y_Board_levelsBroken b_Board_levelsBroken 6 (some .int) ∈ nm_Ts ∧ mz_cl1 y_Board_levelsBroken 2 := ⟨nm_t3 205 rfl rfl, nm_t3 206 rfl rfl, nm_t1 10 rfl rfl, nm_t3 207 rfl rfl, by decide +kernel⟩
def y_Tabulator_faultOfCard : MethodName := ⟨"CardOffice$Tabulator", "faultOfCard", "(LCardOffice$Board;LCardOffice$Card;IZ)I"⟩
abbrev b_Tabulator_faultOfCard : ByteArray := prog_12_method_4_code
def r_Tabulator_faultOfCard (c s : Nat) : Room := { frames := 4, cells := c, slots := s, locals := 92 }
theorem d_Tabulator_faultOfCard_0 : decode b_Tabulator_faultOfCard 0 = .ok (.aload_n 1, 1) := by decide +kernel
theorem d_Tabulator_faultOfCard_1 : decode b_Tabulator_faultOfCard 1 = .ok (.aload_n 2, 1) := by decide +kernel
theorem d_Tabulator_faultOfCard_2 : decode b_Tabulator_faultOfCard 2 = .ok (.aload_n 0, 1) := by decide +kernel
theorem d_Tabulator_faultOfCard_3 : decode b_Tabulator_faultOfCard 3 = .ok (.getfield 31, 3) := by decide +kernel
theorem d_Tabulator_faultOfCard_6 : decode b_Tabulator_faultOfCard 6 = .ok (.invokevirtual 93, 3) := by decide +kernel
theorem d_Tabulator_faultOfCard_9 : decode b_Tabulator_faultOfCard 9 = .ok (.aload_n 1, 1) := by decide +kernel
theorem d_Tabulator_faultOfCard_10 : decode b_Tabulator_faultOfCard 10 = .ok (.aload_n 2, 1) := by decide +kernel
theorem d_Tabulator_faultOfCard_11 : decode b_Tabulator_faultOfCard 11 = .ok (.aload_n 0, 1) := by decide +kernel
theorem d_Tabulator_faultOfCard_12 : decode b_Tabulator_faultOfCard 12 = .ok (.getfield 34, 3) := by decide +kernel
theorem d_Tabulator_faultOfCard_15 : decode b_Tabulator_faultOfCard 15 = .ok (.invokevirtual 93, 3) := by decide +kernel
theorem d_Tabulator_faultOfCard_18 : decode b_Tabulator_faultOfCard 18 = .ok (.aload_n 0, 1) := by decide +kernel
theorem d_Tabulator_faultOfCard_19 : decode b_Tabulator_faultOfCard 19 = .ok (.aload_n 1, 1) := by decide +kernel
theorem d_Tabulator_faultOfCard_20 : decode b_Tabulator_faultOfCard 20 = .ok (.iload_n 3, 1) := by decide +kernel
theorem d_Tabulator_faultOfCard_21 : decode b_Tabulator_faultOfCard 21 = .ok (.invokevirtual 97, 3) := by decide +kernel
theorem d_Tabulator_faultOfCard_24 : decode b_Tabulator_faultOfCard 24 = .ok (.ifCond .ne 28, 3) := by decide +kernel
theorem d_Tabulator_faultOfCard_27 : decode b_Tabulator_faultOfCard 27 = .ok (.iload 4, 2) := by decide +kernel
theorem d_Tabulator_faultOfCard_29 : decode b_Tabulator_faultOfCard 29 = .ok (.ifCond .eq 13, 3) := by decide +kernel
theorem d_Tabulator_faultOfCard_32 : decode b_Tabulator_faultOfCard 32 = .ok (.aload_n 0, 1) := by decide +kernel
theorem d_Tabulator_faultOfCard_33 : decode b_Tabulator_faultOfCard 33 = .ok (.getfield 31, 3) := by decide +kernel
theorem d_Tabulator_faultOfCard_36 : decode b_Tabulator_faultOfCard 36 = .ok (.getfield 101, 3) := by decide +kernel
theorem d_Tabulator_faultOfCard_39 : decode b_Tabulator_faultOfCard 39 = .ok (.ifCond .ne 13, 3) := by decide +kernel
theorem d_Tabulator_faultOfCard_42 : decode b_Tabulator_faultOfCard 42 = .ok (.aload_n 0, 1) := by decide +kernel
theorem d_Tabulator_faultOfCard_43 : decode b_Tabulator_faultOfCard 43 = .ok (.getfield 34, 3) := by decide +kernel
theorem d_Tabulator_faultOfCard_46 : decode b_Tabulator_faultOfCard 46 = .ok (.getfield 101, 3) := by decide +kernel
theorem d_Tabulator_faultOfCard_49 : decode b_Tabulator_faultOfCard 49 = .ok (.ifCond .eq 5, 3) := by decide +kernel
theorem d_Tabulator_faultOfCard_52 : decode b_Tabulator_faultOfCard 52 = .ok (.iconst 2, 1) := by decide +kernel
theorem d_Tabulator_faultOfCard_53 : decode b_Tabulator_faultOfCard 53 = .ok (.ireturn, 1) := by decide +kernel
theorem d_Tabulator_faultOfCard_54 : decode b_Tabulator_faultOfCard 54 = .ok (.aload_n 0, 1) := by decide +kernel
theorem d_Tabulator_faultOfCard_55 : decode b_Tabulator_faultOfCard 55 = .ok (.aload_n 1, 1) := by decide +kernel
theorem d_Tabulator_faultOfCard_56 : decode b_Tabulator_faultOfCard 56 = .ok (.iload_n 3, 1) := by decide +kernel
theorem d_Tabulator_faultOfCard_57 : decode b_Tabulator_faultOfCard 57 = .ok (.invokevirtual 105, 3) := by decide +kernel
theorem d_Tabulator_faultOfCard_60 : decode b_Tabulator_faultOfCard 60 = .ok (.ifCond .eq 5, 3) := by decide +kernel
theorem d_Tabulator_faultOfCard_63 : decode b_Tabulator_faultOfCard 63 = .ok (.iconst 3, 1) := by decide +kernel
theorem d_Tabulator_faultOfCard_64 : decode b_Tabulator_faultOfCard 64 = .ok (.ireturn, 1) := by decide +kernel
theorem d_Tabulator_faultOfCard_65 : decode b_Tabulator_faultOfCard 65 = .ok (.aload_n 1, 1) := by decide +kernel
theorem d_Tabulator_faultOfCard_66 : decode b_Tabulator_faultOfCard 66 = .ok (.iload_n 3, 1) := by decide +kernel
theorem d_Tabulator_faultOfCard_67 : decode b_Tabulator_faultOfCard 67 = .ok (.invokestatic 108, 3) := by decide +kernel
theorem d_Tabulator_faultOfCard_70 : decode b_Tabulator_faultOfCard 70 = .ok (.iload 4, 2) := by decide +kernel
theorem d_Tabulator_faultOfCard_72 : decode b_Tabulator_faultOfCard 72 = .ok (.ifCond .eq 7, 3) := by decide +kernel
theorem d_Tabulator_faultOfCard_75 : decode b_Tabulator_faultOfCard 75 = .ok (.iconst 1, 1) := by decide +kernel
theorem d_Tabulator_faultOfCard_76 : decode b_Tabulator_faultOfCard 76 = .ok (.goto 4, 3) := by decide +kernel
theorem d_Tabulator_faultOfCard_79 : decode b_Tabulator_faultOfCard 79 = .ok (.iconst 0, 1) := by decide +kernel
theorem d_Tabulator_faultOfCard_80 : decode b_Tabulator_faultOfCard 80 = .ok (.iadd, 1) := by decide +kernel
theorem d_Tabulator_faultOfCard_81 : decode b_Tabulator_faultOfCard 81 = .ok (.istore 5, 2) := by decide +kernel
theorem d_Tabulator_faultOfCard_83 : decode b_Tabulator_faultOfCard 83 = .ok (.aload_n 0, 1) := by decide +kernel
theorem d_Tabulator_faultOfCard_84 : decode b_Tabulator_faultOfCard 84 = .ok (.getfield 18, 3) := by decide +kernel
theorem d_Tabulator_faultOfCard_87 : decode b_Tabulator_faultOfCard 87 = .ok (.iload 5, 2) := by decide +kernel
theorem d_Tabulator_faultOfCard_89 : decode b_Tabulator_faultOfCard 89 = .ok (.invokevirtual 112, 3) := by decide +kernel
theorem d_Tabulator_faultOfCard_92 : decode b_Tabulator_faultOfCard 92 = .ok (.ifCond .eq 7, 3) := by decide +kernel
theorem d_Tabulator_faultOfCard_95 : decode b_Tabulator_faultOfCard 95 = .ok (.iconst 0, 1) := by decide +kernel
theorem d_Tabulator_faultOfCard_96 : decode b_Tabulator_faultOfCard 96 = .ok (.goto 4, 3) := by decide +kernel
theorem d_Tabulator_faultOfCard_99 : decode b_Tabulator_faultOfCard 99 = .ok (.iconst 4, 1) := by decide +kernel
theorem d_Tabulator_faultOfCard_100 : decode b_Tabulator_faultOfCard 100 = .ok (.ireturn, 1) := by decide +kernel
theorem v_Tabulator_faultOfCard : Cond.instanceMethod y_Tabulator_faultOfCard ∈ nm_Ts ∧ Cond.selects y_Tabulator_faultOfCard.cls y_Tabulator_faultOfCard y_Tabulator_faultOfCard ∈ nm_Ts ∧ Cond.initialized y_Tabulator_faultOfCard.cls ∈ nm_Ts ∧ Cond.code y_Tabulator_faultOfCard b_Tabulator_faultOfCard 6 (some .int) ∈ nm_Ts ∧ mz_cl1 y_Tabulator_faultOfCard 4 := ⟨nm_t3 211 rfl rfl, nm_s 10 rfl rfl, nm_t1 8 rfl rfl, nm_t3 212 rfl rfl, by decide +kernel⟩
def y_Tabulator_totalsClash : MethodName := ⟨"CardOffice$Tabulator", "totalsClash", "(LCardOffice$Board;I)Z"⟩
abbrev b_Tabulator_totalsClash : ByteArray := prog_12_method_6_code
def r_Tabulator_totalsClash (c s : Nat) : Room := { frames := 3, cells := c, slots := s, locals := 69 }
theorem d_Tabulator_totalsClash_0 : decode b_Tabulator_totalsClash 0 = .ok (.iconst 0, 1) := by decide +kernel
theorem d_Tabulator_totalsClash_1 : decode b_Tabulator_totalsClash 1 = .ok (.istore_n 3, 1) := by decide +kernel
theorem d_Tabulator_totalsClash_2 : decode b_Tabulator_totalsClash 2 = .ok (.iload_n 3, 1) := by decide +kernel
theorem d_Tabulator_totalsClash_3 : decode b_Tabulator_totalsClash 3 = .ok (.iload_n 2, 1) := by decide +kernel
theorem d_Tabulator_totalsClash_4 : decode b_Tabulator_totalsClash 4 = .ok (.if_icmp .ge 34, 3) := by decide +kernel
theorem d_Tabulator_totalsClash_7 : decode b_Tabulator_totalsClash 7 = .ok (.aload_n 1, 1) := by decide +kernel
theorem d_Tabulator_totalsClash_8 : decode b_Tabulator_totalsClash 8 = .ok (.aload_n 0, 1) := by decide +kernel
theorem d_Tabulator_totalsClash_9 : decode b_Tabulator_totalsClash 9 = .ok (.getfield 9, 3) := by decide +kernel
theorem d_Tabulator_totalsClash_12 : decode b_Tabulator_totalsClash 12 = .ok (.iload_n 3, 1) := by decide +kernel
theorem d_Tabulator_totalsClash_13 : decode b_Tabulator_totalsClash 13 = .ok (.aload_n 0, 1) := by decide +kernel
theorem d_Tabulator_totalsClash_14 : decode b_Tabulator_totalsClash 14 = .ok (.getfield 27, 3) := by decide +kernel
theorem d_Tabulator_totalsClash_17 : decode b_Tabulator_totalsClash 17 = .ok (.invokevirtual 116, 3) := by decide +kernel
theorem d_Tabulator_totalsClash_20 : decode b_Tabulator_totalsClash 20 = .ok (.aload_n 0, 1) := by decide +kernel
theorem d_Tabulator_totalsClash_21 : decode b_Tabulator_totalsClash 21 = .ok (.getfield 27, 3) := by decide +kernel
theorem d_Tabulator_totalsClash_24 : decode b_Tabulator_totalsClash 24 = .ok (.getfield 101, 3) := by decide +kernel
theorem d_Tabulator_totalsClash_27 : decode b_Tabulator_totalsClash 27 = .ok (.ifCond .eq 5, 3) := by decide +kernel
theorem d_Tabulator_totalsClash_30 : decode b_Tabulator_totalsClash 30 = .ok (.iconst 1, 1) := by decide +kernel
theorem d_Tabulator_totalsClash_31 : decode b_Tabulator_totalsClash 31 = .ok (.ireturn, 1) := by decide +kernel
theorem d_Tabulator_totalsClash_32 : decode b_Tabulator_totalsClash 32 = .ok (.iinc 3 1, 3) := by decide +kernel
theorem d_Tabulator_totalsClash_35 : decode b_Tabulator_totalsClash 35 = .ok (.goto (-33), 3) := by decide +kernel
theorem d_Tabulator_totalsClash_38 : decode b_Tabulator_totalsClash 38 = .ok (.iconst 0, 1) := by decide +kernel
theorem d_Tabulator_totalsClash_39 : decode b_Tabulator_totalsClash 39 = .ok (.ireturn, 1) := by decide +kernel
theorem v_Tabulator_totalsClash : Cond.instanceMethod y_Tabulator_totalsClash ∈ nm_Ts ∧ Cond.selects y_Tabulator_totalsClash.cls y_Tabulator_totalsClash y_Tabulator_totalsClash ∈ nm_Ts ∧ Cond.initialized y_Tabulator_totalsClash.cls ∈ nm_Ts ∧ Cond.code y_Tabulator_totalsClash b_Tabulator_totalsClash 4 (some .boolean) ∈ nm_Ts ∧ mz_cl1 y_Tabulator_totalsClash 2 := ⟨nm_t3 216 rfl rfl, nm_s 11 rfl rfl, nm_t1 8 rfl rfl, nm_t3 217 rfl rfl, by decide +kernel⟩
def y_Board_bringFromCounters : MethodName := ⟨"CardOffice$Board", "bringFromCounters", "([IILCardOffice$Jacks;)V"⟩
abbrev b_Board_bringFromCounters : ByteArray := prog_2_method_8_code
def r_Board_bringFromCounters (c s : Nat) : Room := { frames := 2, cells := c, slots := s, locals := 43 }
theorem d_Board_bringFromCounters_0 : decode b_Board_bringFromCounters 0 = .ok (.aload_n 3, 1) := by decide +kernel
theorem d_Board_bringFromCounters_1 : decode b_Board_bringFromCounters 1 = .ok (.invokevirtual 40, 3) := by decide +kernel
theorem d_Board_bringFromCounters_4 : decode b_Board_bringFromCounters 4 = .ok (.iconst 0, 1) := by decide +kernel
theorem d_Board_bringFromCounters_5 : decode b_Board_bringFromCounters 5 = .ok (.istore 4, 2) := by decide +kernel
theorem d_Board_bringFromCounters_7 : decode b_Board_bringFromCounters 7 = .ok (.iload 4, 2) := by decide +kernel
theorem d_Board_bringFromCounters_9 : decode b_Board_bringFromCounters 9 = .ok (.aload_n 0, 1) := by decide +kernel
theorem d_Board_bringFromCounters_10 : decode b_Board_bringFromCounters 10 = .ok (.getfield 27, 3) := by decide +kernel
theorem d_Board_bringFromCounters_13 : decode b_Board_bringFromCounters 13 = .ok (.if_icmp .ge 85, 3) := by decide +kernel
theorem d_Board_bringFromCounters_16 : decode b_Board_bringFromCounters 16 = .ok (.aload_n 0, 1) := by decide +kernel
theorem d_Board_bringFromCounters_17 : decode b_Board_bringFromCounters 17 = .ok (.iload 4, 2) := by decide +kernel
theorem d_Board_bringFromCounters_19 : decode b_Board_bringFromCounters 19 = .ok (.invokevirtual 45, 3) := by decide +kernel
theorem d_Board_bringFromCounters_22 : decode b_Board_bringFromCounters 22 = .ok (.ifCond .eq 70, 3) := by decide +kernel
theorem d_Board_bringFromCounters_25 : decode b_Board_bringFromCounters 25 = .ok (.aload_n 3, 1) := by decide +kernel
theorem d_Board_bringFromCounters_26 : decode b_Board_bringFromCounters 26 = .ok (.aload_n 0, 1) := by decide +kernel
theorem d_Board_bringFromCounters_27 : decode b_Board_bringFromCounters 27 = .ok (.getfield 15, 3) := by decide +kernel
theorem d_Board_bringFromCounters_30 : decode b_Board_bringFromCounters 30 = .ok (.iload 4, 2) := by decide +kernel
theorem d_Board_bringFromCounters_32 : decode b_Board_bringFromCounters 32 = .ok (.iaload, 1) := by decide +kernel
theorem d_Board_bringFromCounters_33 : decode b_Board_bringFromCounters 33 = .ok (.invokevirtual 49, 3) := by decide +kernel
theorem d_Board_bringFromCounters_36 : decode b_Board_bringFromCounters 36 = .ok (.ifCond .eq 56, 3) := by decide +kernel
theorem d_Board_bringFromCounters_39 : decode b_Board_bringFromCounters 39 = .ok (.aload_n 0, 1) := by decide +kernel
theorem d_Board_bringFromCounters_40 : decode b_Board_bringFromCounters 40 = .ok (.getfield 9, 3) := by decide +kernel
theorem d_Board_bringFromCounters_43 : decode b_Board_bringFromCounters 43 = .ok (.iload 4, 2) := by decide +kernel
theorem d_Board_bringFromCounters_45 : decode b_Board_bringFromCounters 45 = .ok (.iaload, 1) := by decide +kernel
theorem d_Board_bringFromCounters_46 : decode b_Board_bringFromCounters 46 = .ok (.bipush 32, 2) := by decide +kernel
theorem d_Board_bringFromCounters_48 : decode b_Board_bringFromCounters 48 = .ok (.isub, 1) := by decide +kernel
theorem d_Board_bringFromCounters_49 : decode b_Board_bringFromCounters 49 = .ok (.istore 5, 2) := by decide +kernel
theorem d_Board_bringFromCounters_51 : decode b_Board_bringFromCounters 51 = .ok (.iload 5, 2) := by decide +kernel
theorem d_Board_bringFromCounters_53 : decode b_Board_bringFromCounters 53 = .ok (.bipush 6, 2) := by decide +kernel
theorem d_Board_bringFromCounters_55 : decode b_Board_bringFromCounters 55 = .ok (.idiv, 1) := by decide +kernel
theorem d_Board_bringFromCounters_56 : decode b_Board_bringFromCounters 56 = .ok (.istore 6, 2) := by decide +kernel
theorem d_Board_bringFromCounters_58 : decode b_Board_bringFromCounters 58 = .ok (.aload_n 0, 1) := by decide +kernel
theorem d_Board_bringFromCounters_59 : decode b_Board_bringFromCounters 59 = .ok (.getfield 18, 3) := by decide +kernel
theorem d_Board_bringFromCounters_62 : decode b_Board_bringFromCounters 62 = .ok (.iload 6, 2) := by decide +kernel
theorem d_Board_bringFromCounters_64 : decode b_Board_bringFromCounters 64 = .ok (.iaload, 1) := by decide +kernel
theorem d_Board_bringFromCounters_65 : decode b_Board_bringFromCounters 65 = .ok (.iload_n 2, 1) := by decide +kernel
theorem d_Board_bringFromCounters_66 : decode b_Board_bringFromCounters 66 = .ok (.if_icmp .ne 26, 3) := by decide +kernel
theorem d_Board_bringFromCounters_69 : decode b_Board_bringFromCounters 69 = .ok (.aload_n 3, 1) := by decide +kernel
theorem d_Board_bringFromCounters_70 : decode b_Board_bringFromCounters 70 = .ok (.aload_n 0, 1) := by decide +kernel
theorem d_Board_bringFromCounters_71 : decode b_Board_bringFromCounters 71 = .ok (.getfield 15, 3) := by decide +kernel
theorem d_Board_bringFromCounters_74 : decode b_Board_bringFromCounters 74 = .ok (.iload 4, 2) := by decide +kernel
theorem d_Board_bringFromCounters_76 : decode b_Board_bringFromCounters 76 = .ok (.iaload, 1) := by decide +kernel
theorem d_Board_bringFromCounters_77 : decode b_Board_bringFromCounters 77 = .ok (.aload_n 1, 1) := by decide +kernel
theorem d_Board_bringFromCounters_78 : decode b_Board_bringFromCounters 78 = .ok (.iload 6, 2) := by decide +kernel
theorem d_Board_bringFromCounters_80 : decode b_Board_bringFromCounters 80 = .ok (.iaload, 1) := by decide +kernel
theorem d_Board_bringFromCounters_81 : decode b_Board_bringFromCounters 81 = .ok (.iload 5, 2) := by decide +kernel
theorem d_Board_bringFromCounters_83 : decode b_Board_bringFromCounters 83 = .ok (.bipush 6, 2) := by decide +kernel
theorem d_Board_bringFromCounters_85 : decode b_Board_bringFromCounters 85 = .ok (.irem, 1) := by decide +kernel
theorem d_Board_bringFromCounters_86 : decode b_Board_bringFromCounters 86 = .ok (.invokestatic 60, 3) := by decide +kernel
theorem d_Board_bringFromCounters_89 : decode b_Board_bringFromCounters 89 = .ok (.invokevirtual 56, 3) := by decide +kernel
theorem d_Board_bringFromCounters_92 : decode b_Board_bringFromCounters 92 = .ok (.iinc 4 1, 3) := by decide +kernel
theorem d_Board_bringFromCounters_95 : decode b_Board_bringFromCounters 95 = .ok (.goto (-88), 3) := by decide +kernel
theorem d_Board_bringFromCounters_98 : decode b_Board_bringFromCounters 98 = .ok (.return_, 1) := by decide +kernel
theorem v_Board_bringFromCounters : Cond.instanceMethod y_Board_bringFromCounters ∈ nm_Ts ∧ Cond.selects y_Board_bringFromCounters.cls y_Board_bringFromCounters y_Board_bringFromCounters ∈ nm_Ts ∧ Cond.initialized y_Board_bringFromCounters.cls ∈ nm_Ts ∧ Cond.code y_Board_bringFromCounters b_Board_bringFromCounters 7 none ∈ nm_Ts ∧ mz_cl1 y_Board_bringFromCounters 3 := ⟨nm_t3 219 rfl rfl, nm_t3 220 rfl rfl, nm_t1 10 rfl rfl, nm_t3 221 rfl rfl, by decide +kernel⟩
def y_Board_wheelSign : MethodName := ⟨"CardOffice$Board", "wheelSign", "(II)I"⟩
abbrev b_Board_wheelSign : ByteArray := prog_2_method_9_code
def r_Board_wheelSign (c s : Nat) : Room := { frames := 0, cells := c, slots := s, locals := 0 }
theorem d_Board_wheelSign_0 : decode b_Board_wheelSign 0 = .ok (.iload_n 0, 1) := by decide +kernel
theorem d_Board_wheelSign_1 : decode b_Board_wheelSign 1 = .ok (.getstatic 64, 3) := by decide +kernel
theorem d_Board_wheelSign_4 : decode b_Board_wheelSign 4 = .ok (.iload_n 1, 1) := by decide +kernel
theorem d_Board_wheelSign_5 : decode b_Board_wheelSign 5 = .ok (.iaload, 1) := by decide +kernel
theorem d_Board_wheelSign_6 : decode b_Board_wheelSign 6 = .ok (.idiv, 1) := by decide +kernel
theorem d_Board_wheelSign_7 : decode b_Board_wheelSign 7 = .ok (.istore_n 2, 1) := by decide +kernel
theorem d_Board_wheelSign_8 : decode b_Board_wheelSign 8 = .ok (.iload_n 2, 1) := by decide +kernel
theorem d_Board_wheelSign_9 : decode b_Board_wheelSign 9 = .ok (.ifCond .ne 12, 3) := by decide +kernel
theorem d_Board_wheelSign_12 : decode b_Board_wheelSign 12 = .ok (.iload_n 1, 1) := by decide +kernel
theorem d_Board_wheelSign_13 : decode b_Board_wheelSign 13 = .ok (.ifCond .le 8, 3) := by decide +kernel
theorem d_Board_wheelSign_16 : decode b_Board_wheelSign 16 = .ok (.bipush 32, 2) := by decide +kernel
theorem d_Board_wheelSign_18 : decode b_Board_wheelSign 18 = .ok (.goto 10, 3) := by decide +kernel
theorem d_Board_wheelSign_21 : decode b_Board_wheelSign 21 = .ok (.bipush 48, 2) := by decide +kernel
theorem d_Board_wheelSign_23 : decode b_Board_wheelSign 23 = .ok (.iload_n 2, 1) := by decide +kernel
theorem d_Board_wheelSign_24 : decode b_Board_wheelSign 24 = .ok (.bipush 10, 2) := by decide +kernel
theorem d_Board_wheelSign_26 : decode b_Board_wheelSign 26 = .ok (.irem, 1) := by decide +kernel
theorem d_Board_wheelSign_27 : decode b_Board_wheelSign 27 = .ok (.iadd, 1) := by decide +kernel
theorem d_Board_wheelSign_28 : decode b_Board_wheelSign 28 = .ok (.ireturn, 1) := by decide +kernel
theorem s_Board_wheelSign : Cond.static y_Board_wheelSign ∈ nm_Ts ∧ Cond.initialized y_Board_wheelSign.cls ∈ nm_Ts ∧ Cond.code y_Board_wheelSign b_Board_wheelSign 3 (some .int) ∈ nm_Ts ∧ mz_cl1 y_Board_wheelSign 2 := ⟨nm_t3 223 rfl rfl, nm_t1 10 rfl rfl, nm_t3 224 rfl rfl, by decide +kernel⟩
def y_Tabulator_isAnyOverrun : MethodName := ⟨"CardOffice$Tabulator", "isAnyOverrun", "(LCardOffice$Board;I)Z"⟩
abbrev b_Tabulator_isAnyOverrun : ByteArray := prog_12_method_7_code
def r_Tabulator_isAnyOverrun (c s : Nat) : Room := { frames := 2, cells := c, slots := s, locals := 45 }
theorem d_Tabulator_isAnyOverrun_0 : decode b_Tabulator_isAnyOverrun 0 = .ok (.iconst 0, 1) := by decide +kernel
theorem d_Tabulator_isAnyOverrun_1 : decode b_Tabulator_isAnyOverrun 1 = .ok (.istore_n 3, 1) := by decide +kernel
theorem d_Tabulator_isAnyOverrun_2 : decode b_Tabulator_isAnyOverrun 2 = .ok (.iload_n 3, 1) := by decide +kernel
theorem d_Tabulator_isAnyOverrun_3 : decode b_Tabulator_isAnyOverrun 3 = .ok (.iconst 4, 1) := by decide +kernel
theorem d_Tabulator_isAnyOverrun_4 : decode b_Tabulator_isAnyOverrun 4 = .ok (.if_icmp .ge 50, 3) := by decide +kernel
theorem d_Tabulator_isAnyOverrun_7 : decode b_Tabulator_isAnyOverrun 7 = .ok (.aload_n 1, 1) := by decide +kernel
theorem d_Tabulator_isAnyOverrun_8 : decode b_Tabulator_isAnyOverrun 8 = .ok (.getfield 120, 3) := by decide +kernel
theorem d_Tabulator_isAnyOverrun_11 : decode b_Tabulator_isAnyOverrun 11 = .ok (.iload_n 3, 1) := by decide +kernel
theorem d_Tabulator_isAnyOverrun_12 : decode b_Tabulator_isAnyOverrun 12 = .ok (.iaload, 1) := by decide +kernel
theorem d_Tabulator_isAnyOverrun_13 : decode b_Tabulator_isAnyOverrun 13 = .ok (.iload_n 2, 1) := by decide +kernel
theorem d_Tabulator_isAnyOverrun_14 : decode b_Tabulator_isAnyOverrun 14 = .ok (.if_icmp .ge 7, 3) := by decide +kernel
theorem d_Tabulator_isAnyOverrun_17 : decode b_Tabulator_isAnyOverrun 17 = .ok (.iconst 0, 1) := by decide +kernel
theorem d_Tabulator_isAnyOverrun_18 : decode b_Tabulator_isAnyOverrun 18 = .ok (.goto 9, 3) := by decide +kernel
theorem d_Tabulator_isAnyOverrun_21 : decode b_Tabulator_isAnyOverrun 21 = .ok (.aload_n 0, 1) := by decide +kernel
theorem d_Tabulator_isAnyOverrun_22 : decode b_Tabulator_isAnyOverrun 22 = .ok (.getfield 9, 3) := by decide +kernel
theorem d_Tabulator_isAnyOverrun_25 : decode b_Tabulator_isAnyOverrun 25 = .ok (.iload_n 3, 1) := by decide +kernel
theorem d_Tabulator_isAnyOverrun_26 : decode b_Tabulator_isAnyOverrun 26 = .ok (.iaload, 1) := by decide +kernel
theorem d_Tabulator_isAnyOverrun_27 : decode b_Tabulator_isAnyOverrun 27 = .ok (.istore 4, 2) := by decide +kernel
theorem d_Tabulator_isAnyOverrun_29 : decode b_Tabulator_isAnyOverrun 29 = .ok (.iload 4, 2) := by decide +kernel
theorem d_Tabulator_isAnyOverrun_31 : decode b_Tabulator_isAnyOverrun 31 = .ok (.aload_n 0, 1) := by decide +kernel
theorem d_Tabulator_isAnyOverrun_32 : decode b_Tabulator_isAnyOverrun 32 = .ok (.iload_n 3, 1) := by decide +kernel
theorem d_Tabulator_isAnyOverrun_33 : decode b_Tabulator_isAnyOverrun 33 = .ok (.invokevirtual 123, 3) := by decide +kernel
theorem d_Tabulator_isAnyOverrun_36 : decode b_Tabulator_isAnyOverrun 36 = .ok (.iadd, 1) := by decide +kernel
theorem d_Tabulator_isAnyOverrun_37 : decode b_Tabulator_isAnyOverrun 37 = .ok (.getstatic 126, 3) := by decide +kernel
theorem d_Tabulator_isAnyOverrun_40 : decode b_Tabulator_isAnyOverrun 40 = .ok (.bipush 6, 2) := by decide +kernel
theorem d_Tabulator_isAnyOverrun_42 : decode b_Tabulator_isAnyOverrun 42 = .ok (.iaload, 1) := by decide +kernel
theorem d_Tabulator_isAnyOverrun_43 : decode b_Tabulator_isAnyOverrun 43 = .ok (.if_icmp .lt 5, 3) := by decide +kernel
theorem d_Tabulator_isAnyOverrun_46 : decode b_Tabulator_isAnyOverrun 46 = .ok (.iconst 1, 1) := by decide +kernel
theorem d_Tabulator_isAnyOverrun_47 : decode b_Tabulator_isAnyOverrun 47 = .ok (.ireturn, 1) := by decide +kernel
theorem d_Tabulator_isAnyOverrun_48 : decode b_Tabulator_isAnyOverrun 48 = .ok (.iinc 3 1, 3) := by decide +kernel
theorem d_Tabulator_isAnyOverrun_51 : decode b_Tabulator_isAnyOverrun 51 = .ok (.goto (-49), 3) := by decide +kernel
theorem d_Tabulator_isAnyOverrun_54 : decode b_Tabulator_isAnyOverrun 54 = .ok (.iconst 0, 1) := by decide +kernel
theorem d_Tabulator_isAnyOverrun_55 : decode b_Tabulator_isAnyOverrun 55 = .ok (.ireturn, 1) := by decide +kernel
theorem v_Tabulator_isAnyOverrun : Cond.instanceMethod y_Tabulator_isAnyOverrun ∈ nm_Ts ∧ Cond.selects y_Tabulator_isAnyOverrun.cls y_Tabulator_isAnyOverrun y_Tabulator_isAnyOverrun ∈ nm_Ts ∧ Cond.initialized y_Tabulator_isAnyOverrun.cls ∈ nm_Ts ∧ Cond.code y_Tabulator_isAnyOverrun b_Tabulator_isAnyOverrun 5 (some .boolean) ∈ nm_Ts ∧ mz_cl1 y_Tabulator_isAnyOverrun 2 := ⟨nm_t3 228 rfl rfl, nm_s 12 rfl rfl, nm_t1 8 rfl rfl, nm_t3 229 rfl rfl, by decide +kernel⟩
def y_Tabulator_entered : MethodName := ⟨"CardOffice$Tabulator", "entered", "(I)I"⟩
abbrev b_Tabulator_entered : ByteArray := prog_12_method_8_code
def r_Tabulator_entered (c s : Nat) : Room := { frames := 1, cells := c, slots := s, locals := 21 }
theorem d_Tabulator_entered_0 : decode b_Tabulator_entered 0 = .ok (.iconst 0, 1) := by decide +kernel
theorem d_Tabulator_entered_1 : decode b_Tabulator_entered 1 = .ok (.istore_n 2, 1) := by decide +kernel
theorem d_Tabulator_entered_2 : decode b_Tabulator_entered 2 = .ok (.iconst 0, 1) := by decide +kernel
theorem d_Tabulator_entered_3 : decode b_Tabulator_entered 3 = .ok (.istore_n 3, 1) := by decide +kernel
theorem d_Tabulator_entered_4 : decode b_Tabulator_entered 4 = .ok (.iload_n 3, 1) := by decide +kernel
theorem d_Tabulator_entered_5 : decode b_Tabulator_entered 5 = .ok (.bipush 6, 2) := by decide +kernel
theorem d_Tabulator_entered_7 : decode b_Tabulator_entered 7 = .ok (.if_icmp .ge 42, 3) := by decide +kernel
theorem d_Tabulator_entered_10 : decode b_Tabulator_entered 10 = .ok (.aload_n 0, 1) := by decide +kernel
theorem d_Tabulator_entered_11 : decode b_Tabulator_entered 11 = .ok (.getfield 34, 3) := by decide +kernel
theorem d_Tabulator_entered_14 : decode b_Tabulator_entered 14 = .ok (.iload_n 1, 1) := by decide +kernel
theorem d_Tabulator_entered_15 : decode b_Tabulator_entered 15 = .ok (.bipush 6, 2) := by decide +kernel
theorem d_Tabulator_entered_17 : decode b_Tabulator_entered 17 = .ok (.imul, 1) := by decide +kernel
theorem d_Tabulator_entered_18 : decode b_Tabulator_entered 18 = .ok (.iload_n 3, 1) := by decide +kernel
theorem d_Tabulator_entered_19 : decode b_Tabulator_entered 19 = .ok (.iadd, 1) := by decide +kernel
theorem d_Tabulator_entered_20 : decode b_Tabulator_entered 20 = .ok (.invokevirtual 129, 3) := by decide +kernel
theorem d_Tabulator_entered_23 : decode b_Tabulator_entered 23 = .ok (.istore 4, 2) := by decide +kernel
theorem d_Tabulator_entered_25 : decode b_Tabulator_entered 25 = .ok (.iload_n 2, 1) := by decide +kernel
theorem d_Tabulator_entered_26 : decode b_Tabulator_entered 26 = .ok (.iload 4, 2) := by decide +kernel
theorem d_Tabulator_entered_28 : decode b_Tabulator_entered 28 = .ok (.invokestatic 132, 3) := by decide +kernel
theorem d_Tabulator_entered_31 : decode b_Tabulator_entered 31 = .ok (.iconst 0, 1) := by decide +kernel
theorem d_Tabulator_entered_32 : decode b_Tabulator_entered 32 = .ok (.invokestatic 135, 3) := by decide +kernel
theorem d_Tabulator_entered_35 : decode b_Tabulator_entered 35 = .ok (.getstatic 126, 3) := by decide +kernel
theorem d_Tabulator_entered_38 : decode b_Tabulator_entered 38 = .ok (.iload_n 3, 1) := by decide +kernel
theorem d_Tabulator_entered_39 : decode b_Tabulator_entered 39 = .ok (.iaload, 1) := by decide +kernel
theorem d_Tabulator_entered_40 : decode b_Tabulator_entered 40 = .ok (.imul, 1) := by decide +kernel
theorem d_Tabulator_entered_41 : decode b_Tabulator_entered 41 = .ok (.iadd, 1) := by decide +kernel
theorem d_Tabulator_entered_42 : decode b_Tabulator_entered 42 = .ok (.istore_n 2, 1) := by decide +kernel
theorem d_Tabulator_entered_43 : decode b_Tabulator_entered 43 = .ok (.iinc 3 1, 3) := by decide +kernel
theorem d_Tabulator_entered_46 : decode b_Tabulator_entered 46 = .ok (.goto (-42), 3) := by decide +kernel
theorem d_Tabulator_entered_49 : decode b_Tabulator_entered 49 = .ok (.iload_n 2, 1) := by decide +kernel
theorem d_Tabulator_entered_50 : decode b_Tabulator_entered 50 = .ok (.ireturn, 1) := by decide +kernel
theorem d_Tabulator_entered : decode b_Tabulator_entered 0 = .ok (.iconst 0, 1) ∧ decode b_Tabulator_entered 1 = .ok (.istore_n 2, 1) ∧ decode b_Tabulator_entered 2 = .ok (.iconst 0, 1) ∧ decode b_Tabulator_entered 3 = .ok (.istore_n 3, 1) ∧ decode b_Tabulator_entered 4 = .ok (.iload_n 3, 1) ∧ decode b_Tabulator_entered 5 = .ok (.bipush 6, 2) ∧ decode b_Tabulator_entered 7 = .ok (.if_icmp .ge 42, 3) ∧ decode b_Tabulator_entered 10 = .ok (.aload_n 0, 1) ∧ decode b_Tabulator_entered 11 = .ok (.getfield 34, 3) ∧ decode b_Tabulator_entered 14 = .ok (.iload_n 1, 1) ∧ decode b_Tabulator_entered 15 = .ok (.bipush 6, 2) ∧ decode b_Tabulator_entered 17 = .ok (.imul, 1) ∧ decode b_Tabulator_entered 18 = .ok (.iload_n 3, 1) ∧ decode b_Tabulator_entered 19 = .ok (.iadd, 1) ∧ decode b_Tabulator_entered 20 = .ok (.invokevirtual 129, 3) ∧ decode b_Tabulator_entered 23 = .ok (.istore 4, 2) ∧ decode b_Tabulator_entered 25 = .ok (.iload_n 2, 1) ∧ decode b_Tabulator_entered 26 = .ok (.iload 4, 2) ∧ decode b_Tabulator_entered 28 = .ok (.invokestatic 132, 3) ∧ decode b_Tabulator_entered 31 = .ok (.iconst 0, 1) ∧ decode b_Tabulator_entered 32 = .ok (.invokestatic 135, 3) ∧ decode b_Tabulator_entered 35 = .ok (.getstatic 126, 3) ∧ decode b_Tabulator_entered 38 = .ok (.iload_n 3, 1) ∧ decode b_Tabulator_entered 39 = .ok (.iaload, 1) ∧ decode b_Tabulator_entered 40 = .ok (.imul, 1) ∧ decode b_Tabulator_entered 41 = .ok (.iadd, 1) ∧ decode b_Tabulator_entered 42 = .ok (.istore_n 2, 1) ∧ decode b_Tabulator_entered 43 = .ok (.iinc 3 1, 3) ∧ decode b_Tabulator_entered 46 = .ok (.goto (-42), 3) ∧ decode b_Tabulator_entered 49 = .ok (.iload_n 2, 1) ∧ decode b_Tabulator_entered 50 = .ok (.ireturn, 1) := ⟨d_Tabulator_entered_0, d_Tabulator_entered_1, d_Tabulator_entered_2, d_Tabulator_entered_3, d_Tabulator_entered_4, d_Tabulator_entered_5, d_Tabulator_entered_7, d_Tabulator_entered_10, d_Tabulator_entered_11, d_Tabulator_entered_14, d_Tabulator_entered_15, d_Tabulator_entered_17, d_Tabulator_entered_18, d_Tabulator_entered_19, d_Tabulator_entered_20, d_Tabulator_entered_23, d_Tabulator_entered_25, d_Tabulator_entered_26, d_Tabulator_entered_28, d_Tabulator_entered_31, d_Tabulator_entered_32, d_Tabulator_entered_35, d_Tabulator_entered_38, d_Tabulator_entered_39, d_Tabulator_entered_40, d_Tabulator_entered_41, d_Tabulator_entered_42, d_Tabulator_entered_43, d_Tabulator_entered_46, d_Tabulator_entered_49, d_Tabulator_entered_50⟩
theorem v_Tabulator_entered : Cond.instanceMethod y_Tabulator_entered ∈ nm_Ts ∧ Cond.selects y_Tabulator_entered.cls y_Tabulator_entered y_Tabulator_entered ∈ nm_Ts ∧ Cond.initialized y_Tabulator_entered.cls ∈ nm_Ts ∧ Cond.code y_Tabulator_entered b_Tabulator_entered 5 (some .int) ∈ nm_Ts ∧ mz_cl1 y_Tabulator_entered 1 := ⟨nm_t3 232 rfl rfl, nm_s 13 rfl rfl, nm_t1 8 rfl rfl, nm_t3 233 rfl rfl, by decide +kernel⟩
def y_Tabulator_totalLines : MethodName := ⟨"CardOffice$Tabulator", "totalLines", "(LCardOffice$Board;I)I"⟩
abbrev b_Tabulator_totalLines : ByteArray := prog_12_method_9_code
def r_Tabulator_totalLines (c s : Nat) : Room := { frames := 1, cells := c, slots := s, locals := 22 }
theorem d_Tabulator_totalLines_0 : decode b_Tabulator_totalLines 0 = .ok (.iconst 0, 1) := by decide +kernel
theorem d_Tabulator_totalLines_1 : decode b_Tabulator_totalLines 1 = .ok (.istore_n 2, 1) := by decide +kernel
theorem d_Tabulator_totalLines_2 : decode b_Tabulator_totalLines 2 = .ok (.iconst 0, 1) := by decide +kernel
theorem d_Tabulator_totalLines_3 : decode b_Tabulator_totalLines 3 = .ok (.istore_n 3, 1) := by decide +kernel
theorem d_Tabulator_totalLines_4 : decode b_Tabulator_totalLines 4 = .ok (.iload_n 3, 1) := by decide +kernel
theorem d_Tabulator_totalLines_5 : decode b_Tabulator_totalLines 5 = .ok (.iload_n 1, 1) := by decide +kernel
theorem d_Tabulator_totalLines_6 : decode b_Tabulator_totalLines 6 = .ok (.if_icmp .ge 20, 3) := by decide +kernel
theorem d_Tabulator_totalLines_9 : decode b_Tabulator_totalLines 9 = .ok (.aload_n 0, 1) := by decide +kernel
theorem d_Tabulator_totalLines_10 : decode b_Tabulator_totalLines 10 = .ok (.iload_n 3, 1) := by decide +kernel
theorem d_Tabulator_totalLines_11 : decode b_Tabulator_totalLines 11 = .ok (.invokevirtual 140, 3) := by decide +kernel
theorem d_Tabulator_totalLines_14 : decode b_Tabulator_totalLines 14 = .ok (.ifCond .eq 6, 3) := by decide +kernel
theorem d_Tabulator_totalLines_17 : decode b_Tabulator_totalLines 17 = .ok (.iinc 2 1, 3) := by decide +kernel
theorem d_Tabulator_totalLines_20 : decode b_Tabulator_totalLines 20 = .ok (.iinc 3 1, 3) := by decide +kernel
theorem d_Tabulator_totalLines_23 : decode b_Tabulator_totalLines 23 = .ok (.goto (-19), 3) := by decide +kernel
theorem d_Tabulator_totalLines_26 : decode b_Tabulator_totalLines 26 = .ok (.iload_n 2, 1) := by decide +kernel
theorem d_Tabulator_totalLines_27 : decode b_Tabulator_totalLines 27 = .ok (.ireturn, 1) := by decide +kernel
theorem s_Tabulator_totalLines : Cond.static y_Tabulator_totalLines ∈ nm_Ts ∧ Cond.initialized y_Tabulator_totalLines.cls ∈ nm_Ts ∧ Cond.code y_Tabulator_totalLines b_Tabulator_totalLines 4 (some .int) ∈ nm_Ts ∧ mz_cl1 y_Tabulator_totalLines 2 := ⟨nm_t3 239 rfl rfl, nm_t1 8 rfl rfl, nm_t4 0 rfl rfl, by decide +kernel⟩
def y_Board_hasCounterOf : MethodName := ⟨"CardOffice$Board", "hasCounterOf", "(I)Z"⟩
abbrev b_Board_hasCounterOf : ByteArray := prog_2_method_13_code
def r_Board_hasCounterOf (c s : Nat) : Room := { frames := 0, cells := c, slots := s, locals := 0 }
theorem d_Board_hasCounterOf_0 : decode b_Board_hasCounterOf 0 = .ok (.iconst 0, 1) := by decide +kernel
theorem d_Board_hasCounterOf_1 : decode b_Board_hasCounterOf 1 = .ok (.istore_n 2, 1) := by decide +kernel
theorem d_Board_hasCounterOf_2 : decode b_Board_hasCounterOf 2 = .ok (.iload_n 2, 1) := by decide +kernel
theorem d_Board_hasCounterOf_3 : decode b_Board_hasCounterOf 3 = .ok (.iconst 4, 1) := by decide +kernel
theorem d_Board_hasCounterOf_4 : decode b_Board_hasCounterOf 4 = .ok (.if_icmp .ge 21, 3) := by decide +kernel
theorem d_Board_hasCounterOf_7 : decode b_Board_hasCounterOf 7 = .ok (.aload_n 0, 1) := by decide +kernel
theorem d_Board_hasCounterOf_8 : decode b_Board_hasCounterOf 8 = .ok (.getfield 18, 3) := by decide +kernel
theorem d_Board_hasCounterOf_11 : decode b_Board_hasCounterOf 11 = .ok (.iload_n 2, 1) := by decide +kernel
theorem d_Board_hasCounterOf_12 : decode b_Board_hasCounterOf 12 = .ok (.iaload, 1) := by decide +kernel
theorem d_Board_hasCounterOf_13 : decode b_Board_hasCounterOf 13 = .ok (.iload_n 1, 1) := by decide +kernel
theorem d_Board_hasCounterOf_14 : decode b_Board_hasCounterOf 14 = .ok (.if_icmp .ne 5, 3) := by decide +kernel
theorem d_Board_hasCounterOf_17 : decode b_Board_hasCounterOf 17 = .ok (.iconst 1, 1) := by decide +kernel
theorem d_Board_hasCounterOf_18 : decode b_Board_hasCounterOf 18 = .ok (.ireturn, 1) := by decide +kernel
theorem d_Board_hasCounterOf_19 : decode b_Board_hasCounterOf 19 = .ok (.iinc 2 1, 3) := by decide +kernel
theorem d_Board_hasCounterOf_22 : decode b_Board_hasCounterOf 22 = .ok (.goto (-20), 3) := by decide +kernel
theorem d_Board_hasCounterOf_25 : decode b_Board_hasCounterOf 25 = .ok (.iconst 0, 1) := by decide +kernel
theorem d_Board_hasCounterOf_26 : decode b_Board_hasCounterOf 26 = .ok (.ireturn, 1) := by decide +kernel
theorem v_Board_hasCounterOf : Cond.instanceMethod y_Board_hasCounterOf ∈ nm_Ts ∧ Cond.selects y_Board_hasCounterOf.cls y_Board_hasCounterOf y_Board_hasCounterOf ∈ nm_Ts ∧ Cond.initialized y_Board_hasCounterOf.cls ∈ nm_Ts ∧ Cond.code y_Board_hasCounterOf b_Board_hasCounterOf 3 (some .boolean) ∈ nm_Ts ∧ mz_cl1 y_Board_hasCounterOf 1 := ⟨nm_t4 2 rfl rfl, nm_t4 3 rfl rfl, nm_t1 10 rfl rfl, nm_t4 4 rfl rfl, by decide +kernel⟩
def y_Paper_hasRoomFor : MethodName := ⟨"CardOffice$Paper", "hasRoomFor", "(I)Z"⟩
abbrev b_Paper_hasRoomFor : ByteArray := prog_9_method_2_code
def r_Paper_hasRoomFor (c s : Nat) : Room := { frames := 0, cells := c, slots := s, locals := 0 }
theorem d_Paper_hasRoomFor_0 : decode b_Paper_hasRoomFor 0 = .ok (.aload_n 0, 1) := by decide +kernel
theorem d_Paper_hasRoomFor_1 : decode b_Paper_hasRoomFor 1 = .ok (.getfield 16, 3) := by decide +kernel
theorem d_Paper_hasRoomFor_4 : decode b_Paper_hasRoomFor 4 = .ok (.iload_n 1, 1) := by decide +kernel
theorem d_Paper_hasRoomFor_5 : decode b_Paper_hasRoomFor 5 = .ok (.iadd, 1) := by decide +kernel
theorem d_Paper_hasRoomFor_6 : decode b_Paper_hasRoomFor 6 = .ok (.bipush 100, 2) := by decide +kernel
theorem d_Paper_hasRoomFor_8 : decode b_Paper_hasRoomFor 8 = .ok (.if_icmp .gt 7, 3) := by decide +kernel
theorem d_Paper_hasRoomFor_11 : decode b_Paper_hasRoomFor 11 = .ok (.iconst 1, 1) := by decide +kernel
theorem d_Paper_hasRoomFor_12 : decode b_Paper_hasRoomFor 12 = .ok (.goto 4, 3) := by decide +kernel
theorem d_Paper_hasRoomFor_15 : decode b_Paper_hasRoomFor 15 = .ok (.iconst 0, 1) := by decide +kernel
theorem d_Paper_hasRoomFor_16 : decode b_Paper_hasRoomFor 16 = .ok (.ireturn, 1) := by decide +kernel
theorem v_Paper_hasRoomFor : Cond.instanceMethod y_Paper_hasRoomFor ∈ nm_Ts ∧ Cond.selects y_Paper_hasRoomFor.cls y_Paper_hasRoomFor y_Paper_hasRoomFor ∈ nm_Ts ∧ Cond.initialized y_Paper_hasRoomFor.cls ∈ nm_Ts ∧ Cond.code y_Paper_hasRoomFor b_Paper_hasRoomFor 2 (some .boolean) ∈ nm_Ts ∧ mz_cl1 y_Paper_hasRoomFor 1 := ⟨nm_t4 6 rfl rfl, nm_t4 7 rfl rfl, nm_t1 9 rfl rfl, nm_t4 8 rfl rfl, by decide +kernel⟩
def y_Tabulator_doTotals : MethodName := ⟨"CardOffice$Tabulator", "doTotals", "(LCardOffice$Board;I)V"⟩
abbrev b_Tabulator_doTotals : ByteArray := prog_12_method_10_code
def r_Tabulator_doTotals (c s : Nat) : Room := { frames := 3, cells := c, slots := s, locals := 69 }
theorem d_Tabulator_doTotals_0 : decode b_Tabulator_doTotals 0 = .ok (.iconst 0, 1) := by decide +kernel
theorem d_Tabulator_doTotals_1 : decode b_Tabulator_doTotals 1 = .ok (.istore_n 3, 1) := by decide +kernel
theorem d_Tabulator_doTotals_2 : decode b_Tabulator_doTotals 2 = .ok (.iload_n 3, 1) := by decide +kernel
theorem d_Tabulator_doTotals_3 : decode b_Tabulator_doTotals 3 = .ok (.iload_n 2, 1) := by decide +kernel
theorem d_Tabulator_doTotals_4 : decode b_Tabulator_doTotals 4 = .ok (.if_icmp .ge 47, 3) := by decide +kernel
theorem d_Tabulator_doTotals_7 : decode b_Tabulator_doTotals 7 = .ok (.aload_n 1, 1) := by decide +kernel
theorem d_Tabulator_doTotals_8 : decode b_Tabulator_doTotals 8 = .ok (.iload_n 3, 1) := by decide +kernel
theorem d_Tabulator_doTotals_9 : decode b_Tabulator_doTotals 9 = .ok (.invokevirtual 140, 3) := by decide +kernel
theorem d_Tabulator_doTotals_12 : decode b_Tabulator_doTotals 12 = .ok (.ifCond .eq 33, 3) := by decide +kernel
theorem d_Tabulator_doTotals_15 : decode b_Tabulator_doTotals 15 = .ok (.aload_n 1, 1) := by decide +kernel
theorem d_Tabulator_doTotals_16 : decode b_Tabulator_doTotals 16 = .ok (.aload_n 0, 1) := by decide +kernel
theorem d_Tabulator_doTotals_17 : decode b_Tabulator_doTotals 17 = .ok (.getfield 9, 3) := by decide +kernel
theorem d_Tabulator_doTotals_20 : decode b_Tabulator_doTotals 20 = .ok (.iload_n 3, 1) := by decide +kernel
theorem d_Tabulator_doTotals_21 : decode b_Tabulator_doTotals 21 = .ok (.aload_n 0, 1) := by decide +kernel
theorem d_Tabulator_doTotals_22 : decode b_Tabulator_doTotals 22 = .ok (.getfield 27, 3) := by decide +kernel
theorem d_Tabulator_doTotals_25 : decode b_Tabulator_doTotals 25 = .ok (.invokevirtual 116, 3) := by decide +kernel
theorem d_Tabulator_doTotals_28 : decode b_Tabulator_doTotals 28 = .ok (.aload_n 0, 1) := by decide +kernel
theorem d_Tabulator_doTotals_29 : decode b_Tabulator_doTotals 29 = .ok (.getfield 18, 3) := by decide +kernel
theorem d_Tabulator_doTotals_32 : decode b_Tabulator_doTotals 32 = .ok (.aload_n 0, 1) := by decide +kernel
theorem d_Tabulator_doTotals_33 : decode b_Tabulator_doTotals 33 = .ok (.getfield 27, 3) := by decide +kernel
theorem d_Tabulator_doTotals_36 : decode b_Tabulator_doTotals 36 = .ok (.invokevirtual 143, 3) := by decide +kernel
theorem d_Tabulator_doTotals_39 : decode b_Tabulator_doTotals 39 = .ok (.aload_n 0, 1) := by decide +kernel
theorem d_Tabulator_doTotals_40 : decode b_Tabulator_doTotals 40 = .ok (.aload_n 1, 1) := by decide +kernel
theorem d_Tabulator_doTotals_41 : decode b_Tabulator_doTotals 41 = .ok (.iload_n 3, 1) := by decide +kernel
theorem d_Tabulator_doTotals_42 : decode b_Tabulator_doTotals 42 = .ok (.invokevirtual 147, 3) := by decide +kernel
theorem d_Tabulator_doTotals_45 : decode b_Tabulator_doTotals 45 = .ok (.iinc 3 1, 3) := by decide +kernel
theorem d_Tabulator_doTotals_48 : decode b_Tabulator_doTotals 48 = .ok (.goto (-46), 3) := by decide +kernel
theorem d_Tabulator_doTotals_51 : decode b_Tabulator_doTotals 51 = .ok (.return_, 1) := by decide +kernel
theorem v_Tabulator_doTotals : Cond.instanceMethod y_Tabulator_doTotals ∈ nm_Ts ∧ Cond.selects y_Tabulator_doTotals.cls y_Tabulator_doTotals y_Tabulator_doTotals ∈ nm_Ts ∧ Cond.initialized y_Tabulator_doTotals.cls ∈ nm_Ts ∧ Cond.code y_Tabulator_doTotals b_Tabulator_doTotals 4 none ∈ nm_Ts ∧ mz_cl1 y_Tabulator_doTotals 2 := ⟨nm_t4 12 rfl rfl, nm_s 14 rfl rfl, nm_t1 8 rfl rfl, nm_t4 13 rfl rfl, by decide +kernel⟩
def y_Paper_print : MethodName := ⟨"CardOffice$Paper", "print", "(LCardOffice$Jacks;)V"⟩
abbrev b_Paper_print : ByteArray := prog_9_method_3_code
def r_Paper_print (c s : Nat) : Room := { frames := 1, cells := c, slots := s, locals := 21 }
theorem d_Paper_print_0 : decode b_Paper_print 0 = .ok (.iconst 0, 1) := by decide +kernel
theorem d_Paper_print_1 : decode b_Paper_print 1 = .ok (.istore_n 2, 1) := by decide +kernel
theorem d_Paper_print_2 : decode b_Paper_print 2 = .ok (.iload_n 2, 1) := by decide +kernel
theorem d_Paper_print_3 : decode b_Paper_print 3 = .ok (.bipush 24, 2) := by decide +kernel
theorem d_Paper_print_5 : decode b_Paper_print 5 = .ok (.if_icmp .ge 25, 3) := by decide +kernel
theorem d_Paper_print_8 : decode b_Paper_print 8 = .ok (.aload_n 0, 1) := by decide +kernel
theorem d_Paper_print_9 : decode b_Paper_print 9 = .ok (.getfield 11, 3) := by decide +kernel
theorem d_Paper_print_12 : decode b_Paper_print 12 = .ok (.aload_n 0, 1) := by decide +kernel
theorem d_Paper_print_13 : decode b_Paper_print 13 = .ok (.getfield 16, 3) := by decide +kernel
theorem d_Paper_print_16 : decode b_Paper_print 16 = .ok (.aaload, 1) := by decide +kernel
theorem d_Paper_print_17 : decode b_Paper_print 17 = .ok (.iload_n 2, 1) := by decide +kernel
theorem d_Paper_print_18 : decode b_Paper_print 18 = .ok (.aload_n 1, 1) := by decide +kernel
theorem d_Paper_print_19 : decode b_Paper_print 19 = .ok (.iload_n 2, 1) := by decide +kernel
theorem d_Paper_print_20 : decode b_Paper_print 20 = .ok (.invokevirtual 20, 3) := by decide +kernel
theorem d_Paper_print_23 : decode b_Paper_print 23 = .ok (.iastore, 1) := by decide +kernel
theorem d_Paper_print_24 : decode b_Paper_print 24 = .ok (.iinc 2 1, 3) := by decide +kernel
theorem d_Paper_print_27 : decode b_Paper_print 27 = .ok (.goto (-25), 3) := by decide +kernel
theorem d_Paper_print_30 : decode b_Paper_print 30 = .ok (.aload_n 0, 1) := by decide +kernel
theorem d_Paper_print_31 : decode b_Paper_print 31 = .ok (.dup, 1) := by decide +kernel
theorem d_Paper_print_32 : decode b_Paper_print 32 = .ok (.getfield 16, 3) := by decide +kernel
theorem d_Paper_print_35 : decode b_Paper_print 35 = .ok (.iconst 1, 1) := by decide +kernel
theorem d_Paper_print_36 : decode b_Paper_print 36 = .ok (.iadd, 1) := by decide +kernel
theorem d_Paper_print_37 : decode b_Paper_print 37 = .ok (.putfield 16, 3) := by decide +kernel
theorem d_Paper_print_40 : decode b_Paper_print 40 = .ok (.return_, 1) := by decide +kernel
theorem v_Paper_print : Cond.instanceMethod y_Paper_print ∈ nm_Ts ∧ Cond.selects y_Paper_print.cls y_Paper_print y_Paper_print ∈ nm_Ts ∧ Cond.initialized y_Paper_print.cls ∈ nm_Ts ∧ Cond.code y_Paper_print b_Paper_print 3 none ∈ nm_Ts ∧ mz_cl1 y_Paper_print 1 := ⟨nm_t4 15 rfl rfl, nm_t4 16 rfl rfl, nm_t1 9 rfl rfl, nm_t4 17 rfl rfl, by decide +kernel⟩
def y_Tabulator_clearCounters : MethodName := ⟨"CardOffice$Tabulator", "clearCounters", "(LCardOffice$Board;I)V"⟩
abbrev b_Tabulator_clearCounters : ByteArray := prog_12_method_11_code
def r_Tabulator_clearCounters (c s : Nat) : Room := { frames := 0, cells := c, slots := s, locals := 0 }
theorem d_Tabulator_clearCounters_0 : decode b_Tabulator_clearCounters 0 = .ok (.iconst 0, 1) := by decide +kernel
theorem d_Tabulator_clearCounters_1 : decode b_Tabulator_clearCounters 1 = .ok (.istore_n 3, 1) := by decide +kernel
theorem d_Tabulator_clearCounters_2 : decode b_Tabulator_clearCounters 2 = .ok (.iload_n 3, 1) := by decide +kernel
theorem d_Tabulator_clearCounters_3 : decode b_Tabulator_clearCounters 3 = .ok (.iconst 4, 1) := by decide +kernel
theorem d_Tabulator_clearCounters_4 : decode b_Tabulator_clearCounters 4 = .ok (.if_icmp .ge 26, 3) := by decide +kernel
theorem d_Tabulator_clearCounters_7 : decode b_Tabulator_clearCounters 7 = .ok (.aload_n 1, 1) := by decide +kernel
theorem d_Tabulator_clearCounters_8 : decode b_Tabulator_clearCounters 8 = .ok (.getfield 120, 3) := by decide +kernel
theorem d_Tabulator_clearCounters_11 : decode b_Tabulator_clearCounters 11 = .ok (.iload_n 3, 1) := by decide +kernel
theorem d_Tabulator_clearCounters_12 : decode b_Tabulator_clearCounters 12 = .ok (.iaload, 1) := by decide +kernel
theorem d_Tabulator_clearCounters_13 : decode b_Tabulator_clearCounters 13 = .ok (.iload_n 2, 1) := by decide +kernel
theorem d_Tabulator_clearCounters_14 : decode b_Tabulator_clearCounters 14 = .ok (.if_icmp .ne 10, 3) := by decide +kernel
theorem d_Tabulator_clearCounters_17 : decode b_Tabulator_clearCounters 17 = .ok (.aload_n 0, 1) := by decide +kernel
theorem d_Tabulator_clearCounters_18 : decode b_Tabulator_clearCounters 18 = .ok (.getfield 9, 3) := by decide +kernel
theorem d_Tabulator_clearCounters_21 : decode b_Tabulator_clearCounters 21 = .ok (.iload_n 3, 1) := by decide +kernel
theorem d_Tabulator_clearCounters_22 : decode b_Tabulator_clearCounters 22 = .ok (.iconst 0, 1) := by decide +kernel
theorem d_Tabulator_clearCounters_23 : decode b_Tabulator_clearCounters 23 = .ok (.iastore, 1) := by decide +kernel
theorem d_Tabulator_clearCounters_24 : decode b_Tabulator_clearCounters 24 = .ok (.iinc 3 1, 3) := by decide +kernel
theorem d_Tabulator_clearCounters_27 : decode b_Tabulator_clearCounters 27 = .ok (.goto (-25), 3) := by decide +kernel
theorem d_Tabulator_clearCounters_30 : decode b_Tabulator_clearCounters 30 = .ok (.return_, 1) := by decide +kernel
theorem v_Tabulator_clearCounters : Cond.instanceMethod y_Tabulator_clearCounters ∈ nm_Ts ∧ Cond.selects y_Tabulator_clearCounters.cls y_Tabulator_clearCounters y_Tabulator_clearCounters ∈ nm_Ts ∧ Cond.initialized y_Tabulator_clearCounters.cls ∈ nm_Ts ∧ Cond.code y_Tabulator_clearCounters b_Tabulator_clearCounters 4 none ∈ nm_Ts ∧ mz_cl1 y_Tabulator_clearCounters 2 := ⟨nm_t4 21 rfl rfl, nm_s 15 rfl rfl, nm_t1 8 rfl rfl, nm_t4 22 rfl rfl, by decide +kernel⟩
def y_Tabulator_doCard : MethodName := ⟨"CardOffice$Tabulator", "doCard", "(Z)V"⟩
abbrev b_Tabulator_doCard : ByteArray := prog_12_method_12_code
def r_Tabulator_doCard (c s : Nat) : Room := { frames := 2, cells := c, slots := s, locals := 45 }
theorem d_Tabulator_doCard_0 : decode b_Tabulator_doCard 0 = .ok (.iload_n 1, 1) := by decide +kernel
theorem d_Tabulator_doCard_1 : decode b_Tabulator_doCard 1 = .ok (.ifCond .eq 14, 3) := by decide +kernel
theorem d_Tabulator_doCard_4 : decode b_Tabulator_doCard 4 = .ok (.aload_n 0, 1) := by decide +kernel
theorem d_Tabulator_doCard_5 : decode b_Tabulator_doCard 5 = .ok (.getfield 18, 3) := by decide +kernel
theorem d_Tabulator_doCard_8 : decode b_Tabulator_doCard 8 = .ok (.aload_n 0, 1) := by decide +kernel
theorem d_Tabulator_doCard_9 : decode b_Tabulator_doCard 9 = .ok (.getfield 31, 3) := by decide +kernel
theorem d_Tabulator_doCard_12 : decode b_Tabulator_doCard 12 = .ok (.invokevirtual 143, 3) := by decide +kernel
theorem d_Tabulator_doCard_15 : decode b_Tabulator_doCard 15 = .ok (.iconst 0, 1) := by decide +kernel
theorem d_Tabulator_doCard_16 : decode b_Tabulator_doCard 16 = .ok (.istore_n 2, 1) := by decide +kernel
theorem d_Tabulator_doCard_17 : decode b_Tabulator_doCard 17 = .ok (.iload_n 2, 1) := by decide +kernel
theorem d_Tabulator_doCard_18 : decode b_Tabulator_doCard 18 = .ok (.iconst 4, 1) := by decide +kernel
theorem d_Tabulator_doCard_19 : decode b_Tabulator_doCard 19 = .ok (.if_icmp .ge 23, 3) := by decide +kernel
theorem d_Tabulator_doCard_22 : decode b_Tabulator_doCard 22 = .ok (.aload_n 0, 1) := by decide +kernel
theorem d_Tabulator_doCard_23 : decode b_Tabulator_doCard 23 = .ok (.getfield 9, 3) := by decide +kernel
theorem d_Tabulator_doCard_26 : decode b_Tabulator_doCard 26 = .ok (.iload_n 2, 1) := by decide +kernel
theorem d_Tabulator_doCard_27 : decode b_Tabulator_doCard 27 = .ok (.dup2, 1) := by decide +kernel
theorem d_Tabulator_doCard_28 : decode b_Tabulator_doCard 28 = .ok (.iaload, 1) := by decide +kernel
theorem d_Tabulator_doCard_29 : decode b_Tabulator_doCard 29 = .ok (.aload_n 0, 1) := by decide +kernel
theorem d_Tabulator_doCard_30 : decode b_Tabulator_doCard 30 = .ok (.iload_n 2, 1) := by decide +kernel
theorem d_Tabulator_doCard_31 : decode b_Tabulator_doCard 31 = .ok (.invokevirtual 123, 3) := by decide +kernel
theorem d_Tabulator_doCard_34 : decode b_Tabulator_doCard 34 = .ok (.iadd, 1) := by decide +kernel
theorem d_Tabulator_doCard_35 : decode b_Tabulator_doCard 35 = .ok (.iastore, 1) := by decide +kernel
theorem d_Tabulator_doCard_36 : decode b_Tabulator_doCard 36 = .ok (.iinc 2 1, 3) := by decide +kernel
theorem d_Tabulator_doCard_39 : decode b_Tabulator_doCard 39 = .ok (.goto (-22), 3) := by decide +kernel
theorem d_Tabulator_doCard_42 : decode b_Tabulator_doCard 42 = .ok (.return_, 1) := by decide +kernel
theorem v_Tabulator_doCard : Cond.instanceMethod y_Tabulator_doCard ∈ nm_Ts ∧ Cond.selects y_Tabulator_doCard.cls y_Tabulator_doCard y_Tabulator_doCard ∈ nm_Ts ∧ Cond.initialized y_Tabulator_doCard.cls ∈ nm_Ts ∧ Cond.code y_Tabulator_doCard b_Tabulator_doCard 3 none ∈ nm_Ts ∧ mz_cl1 y_Tabulator_doCard 1 := ⟨nm_t4 25 rfl rfl, nm_s 16 rfl rfl, nm_t1 8 rfl rfl, nm_t4 26 rfl rfl, by decide +kernel⟩
def y_Tabulator_finish : MethodName := ⟨"CardOffice$Tabulator", "finish", "(LCardOffice$Board;ILCardOffice$FaultLight;)I"⟩
abbrev b_Tabulator_finish : ByteArray := prog_12_method_3_code
def r_Tabulator_finish (c s : Nat) : Room := { frames := 5, cells := c, slots := s, locals := 113 }
theorem d_Tabulator_finish_0 : decode b_Tabulator_finish 0 = .ok (.iload_n 2, 1) := by decide +kernel
theorem d_Tabulator_finish_1 : decode b_Tabulator_finish 1 = .ok (.ifCond .le 29, 3) := by decide +kernel
theorem d_Tabulator_finish_4 : decode b_Tabulator_finish 4 = .ok (.aload_n 0, 1) := by decide +kernel
theorem d_Tabulator_finish_5 : decode b_Tabulator_finish 5 = .ok (.aload_n 1, 1) := by decide +kernel
theorem d_Tabulator_finish_6 : decode b_Tabulator_finish 6 = .ok (.invokevirtual 85, 3) := by decide +kernel
theorem d_Tabulator_finish_9 : decode b_Tabulator_finish 9 = .ok (.istore 4, 2) := by decide +kernel
theorem d_Tabulator_finish_11 : decode b_Tabulator_finish 11 = .ok (.iload 4, 2) := by decide +kernel
theorem d_Tabulator_finish_13 : decode b_Tabulator_finish 13 = .ok (.ifCond .eq 11, 3) := by decide +kernel
theorem d_Tabulator_finish_16 : decode b_Tabulator_finish 16 = .ok (.aload_n 3, 1) := by decide +kernel
theorem d_Tabulator_finish_17 : decode b_Tabulator_finish 17 = .ok (.iload 4, 2) := by decide +kernel
theorem d_Tabulator_finish_19 : decode b_Tabulator_finish 19 = .ok (.iload_n 2, 1) := by decide +kernel
theorem d_Tabulator_finish_20 : decode b_Tabulator_finish 20 = .ok (.invokevirtual 67, 3) := by decide +kernel
theorem d_Tabulator_finish_23 : decode b_Tabulator_finish 23 = .ok (.ireturn, 1) := by decide +kernel
theorem d_Tabulator_finish_24 : decode b_Tabulator_finish 24 = .ok (.aload_n 0, 1) := by decide +kernel
theorem d_Tabulator_finish_25 : decode b_Tabulator_finish 25 = .ok (.aload_n 1, 1) := by decide +kernel
theorem d_Tabulator_finish_26 : decode b_Tabulator_finish 26 = .ok (.iconst 4, 1) := by decide +kernel
theorem d_Tabulator_finish_27 : decode b_Tabulator_finish 27 = .ok (.invokevirtual 73, 3) := by decide +kernel
theorem d_Tabulator_finish_30 : decode b_Tabulator_finish 30 = .ok (.aload_n 3, 1) := by decide +kernel
theorem d_Tabulator_finish_31 : decode b_Tabulator_finish 31 = .ok (.iload_n 2, 1) := by decide +kernel
theorem d_Tabulator_finish_32 : decode b_Tabulator_finish 32 = .ok (.invokevirtual 89, 3) := by decide +kernel
theorem d_Tabulator_finish_35 : decode b_Tabulator_finish 35 = .ok (.ireturn, 1) := by decide +kernel
theorem v_Tabulator_finish : Cond.instanceMethod y_Tabulator_finish ∈ nm_Ts ∧ Cond.selects y_Tabulator_finish.cls y_Tabulator_finish y_Tabulator_finish ∈ nm_Ts ∧ Cond.initialized y_Tabulator_finish.cls ∈ nm_Ts ∧ Cond.code y_Tabulator_finish b_Tabulator_finish 5 (some .int) ∈ nm_Ts ∧ mz_cl1 y_Tabulator_finish 3 := ⟨nm_t4 29 rfl rfl, nm_s 17 rfl rfl, nm_t1 8 rfl rfl, nm_t4 30 rfl rfl, by decide +kernel⟩
def y_Tabulator_faultOfLastTotals : MethodName := ⟨"CardOffice$Tabulator", "faultOfLastTotals", "(LCardOffice$Board;)I"⟩
abbrev b_Tabulator_faultOfLastTotals : ByteArray := prog_12_method_5_code
def r_Tabulator_faultOfLastTotals (c s : Nat) : Room := { frames := 4, cells := c, slots := s, locals := 92 }
theorem d_Tabulator_faultOfLastTotals_0 : decode b_Tabulator_faultOfLastTotals 0 = .ok (.aload_n 0, 1) := by decide +kernel
theorem d_Tabulator_faultOfLastTotals_1 : decode b_Tabulator_faultOfLastTotals 1 = .ok (.aload_n 1, 1) := by decide +kernel
theorem d_Tabulator_faultOfLastTotals_2 : decode b_Tabulator_faultOfLastTotals 2 = .ok (.iconst 4, 1) := by decide +kernel
theorem d_Tabulator_faultOfLastTotals_3 : decode b_Tabulator_faultOfLastTotals 3 = .ok (.invokevirtual 97, 3) := by decide +kernel
theorem d_Tabulator_faultOfLastTotals_6 : decode b_Tabulator_faultOfLastTotals 6 = .ok (.ifCond .eq 5, 3) := by decide +kernel
theorem d_Tabulator_faultOfLastTotals_9 : decode b_Tabulator_faultOfLastTotals 9 = .ok (.iconst 2, 1) := by decide +kernel
theorem d_Tabulator_faultOfLastTotals_10 : decode b_Tabulator_faultOfLastTotals 10 = .ok (.ireturn, 1) := by decide +kernel
theorem d_Tabulator_faultOfLastTotals_11 : decode b_Tabulator_faultOfLastTotals 11 = .ok (.aload_n 0, 1) := by decide +kernel
theorem d_Tabulator_faultOfLastTotals_12 : decode b_Tabulator_faultOfLastTotals 12 = .ok (.getfield 18, 3) := by decide +kernel
theorem d_Tabulator_faultOfLastTotals_15 : decode b_Tabulator_faultOfLastTotals 15 = .ok (.aload_n 1, 1) := by decide +kernel
theorem d_Tabulator_faultOfLastTotals_16 : decode b_Tabulator_faultOfLastTotals 16 = .ok (.iconst 4, 1) := by decide +kernel
theorem d_Tabulator_faultOfLastTotals_17 : decode b_Tabulator_faultOfLastTotals 17 = .ok (.invokestatic 108, 3) := by decide +kernel
theorem d_Tabulator_faultOfLastTotals_20 : decode b_Tabulator_faultOfLastTotals 20 = .ok (.invokevirtual 112, 3) := by decide +kernel
theorem d_Tabulator_faultOfLastTotals_23 : decode b_Tabulator_faultOfLastTotals 23 = .ok (.ifCond .eq 7, 3) := by decide +kernel
theorem d_Tabulator_faultOfLastTotals_26 : decode b_Tabulator_faultOfLastTotals 26 = .ok (.iconst 0, 1) := by decide +kernel
theorem d_Tabulator_faultOfLastTotals_27 : decode b_Tabulator_faultOfLastTotals 27 = .ok (.goto 4, 3) := by decide +kernel
theorem d_Tabulator_faultOfLastTotals_30 : decode b_Tabulator_faultOfLastTotals 30 = .ok (.iconst 4, 1) := by decide +kernel
theorem d_Tabulator_faultOfLastTotals_31 : decode b_Tabulator_faultOfLastTotals 31 = .ok (.ireturn, 1) := by decide +kernel
theorem v_Tabulator_faultOfLastTotals : Cond.instanceMethod y_Tabulator_faultOfLastTotals ∈ nm_Ts ∧ Cond.selects y_Tabulator_faultOfLastTotals.cls y_Tabulator_faultOfLastTotals y_Tabulator_faultOfLastTotals ∈ nm_Ts ∧ Cond.initialized y_Tabulator_faultOfLastTotals.cls ∈ nm_Ts ∧ Cond.code y_Tabulator_faultOfLastTotals b_Tabulator_faultOfLastTotals 2 (some .int) ∈ nm_Ts ∧ mz_cl1 y_Tabulator_faultOfLastTotals 1 := ⟨nm_t4 33 rfl rfl, nm_s 18 rfl rfl, nm_t1 8 rfl rfl, nm_t4 34 rfl rfl, by decide +kernel⟩
def y_Office_sign : MethodName := ⟨"CardOffice", "sign", "(III)I"⟩
abbrev b_Office_sign : ByteArray := prog_1_method_15_code
def r_Office_sign (c s : Nat) : Room := { frames := 7, cells := c, slots := s, locals := 91 }
theorem d_Office_sign_0 : decode b_Office_sign 0 = .ok (.iload_n 1, 1) := by decide +kernel
theorem d_Office_sign_1 : decode b_Office_sign 1 = .ok (.invokestatic 62, 3) := by decide +kernel
theorem d_Office_sign_4 : decode b_Office_sign 4 = .ok (.ifCond .eq 27, 3) := by decide +kernel
theorem d_Office_sign_7 : decode b_Office_sign 7 = .ok (.iload_n 2, 1) := by decide +kernel
theorem d_Office_sign_8 : decode b_Office_sign 8 = .ok (.ifCond .lt 23, 3) := by decide +kernel
theorem d_Office_sign_11 : decode b_Office_sign 11 = .ok (.iload_n 2, 1) := by decide +kernel
theorem d_Office_sign_12 : decode b_Office_sign 12 = .ok (.aload_n 0, 1) := by decide +kernel
theorem d_Office_sign_13 : decode b_Office_sign 13 = .ok (.getfield 11, 3) := by decide +kernel
theorem d_Office_sign_16 : decode b_Office_sign 16 = .ok (.iload_n 1, 1) := by decide +kernel
theorem d_Office_sign_17 : decode b_Office_sign 17 = .ok (.aaload, 1) := by decide +kernel
theorem d_Office_sign_18 : decode b_Office_sign 18 = .ok (.getfield 183, 3) := by decide +kernel
theorem d_Office_sign_21 : decode b_Office_sign 21 = .ok (.if_icmp .ge 10, 3) := by decide +kernel
theorem d_Office_sign_24 : decode b_Office_sign 24 = .ok (.iload_n 3, 1) := by decide +kernel
theorem d_Office_sign_25 : decode b_Office_sign 25 = .ok (.invokestatic 106, 3) := by decide +kernel
theorem d_Office_sign_28 : decode b_Office_sign 28 = .ok (.ifCond .ne 13, 3) := by decide +kernel
theorem d_Office_sign_31 : decode b_Office_sign 31 = .ok (.new 191, 3) := by decide +kernel
theorem d_Office_sign_34 : decode b_Office_sign 34 = .ok (.dup, 1) := by decide +kernel
theorem d_Office_sign_35 : decode b_Office_sign 35 = .ok (.ldc 193, 2) := by decide +kernel
theorem d_Office_sign_37 : decode b_Office_sign 37 = .ok (.invokespecial 195, 3) := by decide +kernel
theorem d_Office_sign_40 : decode b_Office_sign 40 = .ok (.athrow, 1) := by decide +kernel
theorem d_Office_sign_41 : decode b_Office_sign 41 = .ok (.aload_n 0, 1) := by decide +kernel
theorem d_Office_sign_42 : decode b_Office_sign 42 = .ok (.getfield 11, 3) := by decide +kernel
theorem d_Office_sign_45 : decode b_Office_sign 45 = .ok (.iload_n 1, 1) := by decide +kernel
theorem d_Office_sign_46 : decode b_Office_sign 46 = .ok (.aaload, 1) := by decide +kernel
theorem d_Office_sign_47 : decode b_Office_sign 47 = .ok (.iload_n 2, 1) := by decide +kernel
theorem d_Office_sign_48 : decode b_Office_sign 48 = .ok (.invokevirtual 196, 3) := by decide +kernel
theorem d_Office_sign_51 : decode b_Office_sign 51 = .ok (.getfield 77, 3) := by decide +kernel
theorem d_Office_sign_54 : decode b_Office_sign 54 = .ok (.iload_n 3, 1) := by decide +kernel
theorem d_Office_sign_55 : decode b_Office_sign 55 = .ok (.iaload, 1) := by decide +kernel
theorem d_Office_sign_56 : decode b_Office_sign 56 = .ok (.ireturn, 1) := by decide +kernel
theorem d_Office_sign : decode b_Office_sign 0 = .ok (.iload_n 1, 1) ∧ decode b_Office_sign 1 = .ok (.invokestatic 62, 3) ∧ decode b_Office_sign 4 = .ok (.ifCond .eq 27, 3) ∧ decode b_Office_sign 7 = .ok (.iload_n 2, 1) ∧ decode b_Office_sign 8 = .ok (.ifCond .lt 23, 3) ∧ decode b_Office_sign 11 = .ok (.iload_n 2, 1) ∧ decode b_Office_sign 12 = .ok (.aload_n 0, 1) ∧ decode b_Office_sign 13 = .ok (.getfield 11, 3) ∧ decode b_Office_sign 16 = .ok (.iload_n 1, 1) ∧ decode b_Office_sign 17 = .ok (.aaload, 1) ∧ decode b_Office_sign 18 = .ok (.getfield 183, 3) ∧ decode b_Office_sign 21 = .ok (.if_icmp .ge 10, 3) ∧ decode b_Office_sign 24 = .ok (.iload_n 3, 1) ∧ decode b_Office_sign 25 = .ok (.invokestatic 106, 3) ∧ decode b_Office_sign 28 = .ok (.ifCond .ne 13, 3) ∧ decode b_Office_sign 31 = .ok (.new 191, 3) ∧ decode b_Office_sign 34 = .ok (.dup, 1) ∧ decode b_Office_sign 35 = .ok (.ldc 193, 2) ∧ decode b_Office_sign 37 = .ok (.invokespecial 195, 3) ∧ decode b_Office_sign 40 = .ok (.athrow, 1) ∧ decode b_Office_sign 41 = .ok (.aload_n 0, 1) ∧ decode b_Office_sign 42 = .ok (.getfield 11, 3) ∧ decode b_Office_sign 45 = .ok (.iload_n 1, 1) ∧ decode b_Office_sign 46 = .ok (.aaload, 1) ∧ decode b_Office_sign 47 = .ok (.iload_n 2, 1) ∧ decode b_Office_sign 48 = .ok (.invokevirtual 196, 3) ∧ decode b_Office_sign 51 = .ok (.getfield 77, 3) ∧ decode b_Office_sign 54 = .ok (.iload_n 3, 1) ∧ decode b_Office_sign 55 = .ok (.iaload, 1) ∧ decode b_Office_sign 56 = .ok (.ireturn, 1) := ⟨d_Office_sign_0, d_Office_sign_1, d_Office_sign_4, d_Office_sign_7, d_Office_sign_8, d_Office_sign_11, d_Office_sign_12, d_Office_sign_13, d_Office_sign_16, d_Office_sign_17, d_Office_sign_18, d_Office_sign_21, d_Office_sign_24, d_Office_sign_25, d_Office_sign_28, d_Office_sign_31, d_Office_sign_34, d_Office_sign_35, d_Office_sign_37, d_Office_sign_40, d_Office_sign_41, d_Office_sign_42, d_Office_sign_45, d_Office_sign_46, d_Office_sign_47, d_Office_sign_48, d_Office_sign_51, d_Office_sign_54, d_Office_sign_55, d_Office_sign_56⟩
theorem v_Office_sign : Cond.instanceMethod y_Office_sign ∈ nm_Ts ∧ Cond.selects y_Office_sign.cls y_Office_sign y_Office_sign ∈ nm_Ts ∧ Cond.initialized y_Office_sign.cls ∈ nm_Ts ∧ Cond.code y_Office_sign b_Office_sign 4 (some .int) ∈ nm_Ts ∧ mz_cl1 y_Office_sign 3 := ⟨nm_t4 41 rfl rfl, nm_t4 42 rfl rfl, nm_t1 1 rfl rfl, nm_t4 43 rfl rfl, by decide +kernel⟩
def y_Office_printed : MethodName := ⟨"CardOffice", "printed", "(II)I"⟩
abbrev b_Office_printed : ByteArray := prog_1_method_16_code
def r_Office_printed (c s : Nat) : Room := { frames := 7, cells := c, slots := s, locals := 91 }
theorem d_Office_printed_0 : decode b_Office_printed 0 = .ok (.iload_n 1, 1) := by decide +kernel
theorem d_Office_printed_1 : decode b_Office_printed 1 = .ok (.ifCond .lt 27, 3) := by decide +kernel
theorem d_Office_printed_4 : decode b_Office_printed 4 = .ok (.iload_n 1, 1) := by decide +kernel
theorem d_Office_printed_5 : decode b_Office_printed 5 = .ok (.aload_n 0, 1) := by decide +kernel
theorem d_Office_printed_6 : decode b_Office_printed 6 = .ok (.getfield 56, 3) := by decide +kernel
theorem d_Office_printed_9 : decode b_Office_printed 9 = .ok (.getfield 200, 3) := by decide +kernel
theorem d_Office_printed_12 : decode b_Office_printed 12 = .ok (.getfield 204, 3) := by decide +kernel
theorem d_Office_printed_15 : decode b_Office_printed 15 = .ok (.if_icmp .ge 13, 3) := by decide +kernel
theorem d_Office_printed_18 : decode b_Office_printed 18 = .ok (.iload_n 2, 1) := by decide +kernel
theorem d_Office_printed_19 : decode b_Office_printed 19 = .ok (.ifCond .lt 9, 3) := by decide +kernel
theorem d_Office_printed_22 : decode b_Office_printed 22 = .ok (.iload_n 2, 1) := by decide +kernel
theorem d_Office_printed_23 : decode b_Office_printed 23 = .ok (.bipush 24, 2) := by decide +kernel
theorem d_Office_printed_25 : decode b_Office_printed 25 = .ok (.if_icmp .lt 13, 3) := by decide +kernel
theorem d_Office_printed_28 : decode b_Office_printed 28 = .ok (.new 191, 3) := by decide +kernel
theorem d_Office_printed_31 : decode b_Office_printed 31 = .ok (.dup, 1) := by decide +kernel
theorem d_Office_printed_32 : decode b_Office_printed 32 = .ok (.ldc 209, 2) := by decide +kernel
theorem d_Office_printed_34 : decode b_Office_printed 34 = .ok (.invokespecial 195, 3) := by decide +kernel
theorem d_Office_printed_37 : decode b_Office_printed 37 = .ok (.athrow, 1) := by decide +kernel
theorem d_Office_printed_38 : decode b_Office_printed 38 = .ok (.aload_n 0, 1) := by decide +kernel
theorem d_Office_printed_39 : decode b_Office_printed 39 = .ok (.getfield 56, 3) := by decide +kernel
theorem d_Office_printed_42 : decode b_Office_printed 42 = .ok (.getfield 200, 3) := by decide +kernel
theorem d_Office_printed_45 : decode b_Office_printed 45 = .ok (.getfield 211, 3) := by decide +kernel
theorem d_Office_printed_48 : decode b_Office_printed 48 = .ok (.iload_n 1, 1) := by decide +kernel
theorem d_Office_printed_49 : decode b_Office_printed 49 = .ok (.aaload, 1) := by decide +kernel
theorem d_Office_printed_50 : decode b_Office_printed 50 = .ok (.iload_n 2, 1) := by decide +kernel
theorem d_Office_printed_51 : decode b_Office_printed 51 = .ok (.iaload, 1) := by decide +kernel
theorem d_Office_printed_52 : decode b_Office_printed 52 = .ok (.ireturn, 1) := by decide +kernel
theorem d_Office_printed : decode b_Office_printed 0 = .ok (.iload_n 1, 1) ∧ decode b_Office_printed 1 = .ok (.ifCond .lt 27, 3) ∧ decode b_Office_printed 4 = .ok (.iload_n 1, 1) ∧ decode b_Office_printed 5 = .ok (.aload_n 0, 1) ∧ decode b_Office_printed 6 = .ok (.getfield 56, 3) ∧ decode b_Office_printed 9 = .ok (.getfield 200, 3) ∧ decode b_Office_printed 12 = .ok (.getfield 204, 3) ∧ decode b_Office_printed 15 = .ok (.if_icmp .ge 13, 3) ∧ decode b_Office_printed 18 = .ok (.iload_n 2, 1) ∧ decode b_Office_printed 19 = .ok (.ifCond .lt 9, 3) ∧ decode b_Office_printed 22 = .ok (.iload_n 2, 1) ∧ decode b_Office_printed 23 = .ok (.bipush 24, 2) ∧ decode b_Office_printed 25 = .ok (.if_icmp .lt 13, 3) ∧ decode b_Office_printed 28 = .ok (.new 191, 3) ∧ decode b_Office_printed 31 = .ok (.dup, 1) ∧ decode b_Office_printed 32 = .ok (.ldc 209, 2) ∧ decode b_Office_printed 34 = .ok (.invokespecial 195, 3) ∧ decode b_Office_printed 37 = .ok (.athrow, 1) ∧ decode b_Office_printed 38 = .ok (.aload_n 0, 1) ∧ decode b_Office_printed 39 = .ok (.getfield 56, 3) ∧ decode b_Office_printed 42 = .ok (.getfield 200, 3) ∧ decode b_Office_printed 45 = .ok (.getfield 211, 3) ∧ decode b_Office_printed 48 = .ok (.iload_n 1, 1) ∧ decode b_Office_printed 49 = .ok (.aaload, 1) ∧ decode b_Office_printed 50 = .ok (.iload_n 2, 1) ∧ decode b_Office_printed 51 = .ok (.iaload, 1) ∧ decode b_Office_printed 52 = .ok (.ireturn, 1) := ⟨d_Office_printed_0, d_Office_printed_1, d_Office_printed_4, d_Office_printed_5, d_Office_printed_6, d_Office_printed_9, d_Office_printed_12, d_Office_printed_15, d_Office_printed_18, d_Office_printed_19, d_Office_printed_22, d_Office_printed_23, d_Office_printed_25, d_Office_printed_28, d_Office_printed_31, d_Office_printed_32, d_Office_printed_34, d_Office_printed_37, d_Office_printed_38, d_Office_printed_39, d_Office_printed_42, d_Office_printed_45, d_Office_printed_48, d_Office_printed_49, d_Office_printed_50, d_Office_printed_51, d_Office_printed_52⟩
theorem v_Office_printed : Cond.instanceMethod y_Office_printed ∈ nm_Ts ∧ Cond.selects y_Office_printed.cls y_Office_printed y_Office_printed ∈ nm_Ts ∧ Cond.initialized y_Office_printed.cls ∈ nm_Ts ∧ Cond.code y_Office_printed b_Office_printed 3 (some .int) ∈ nm_Ts ∧ mz_cl1 y_Office_printed 2 := ⟨nm_t4 65 rfl rfl, nm_t4 66 rfl rfl, nm_t1 1 rfl rfl, nm_t4 67 rfl rfl, by decide +kernel⟩
def y_Office_counter : MethodName := ⟨"CardOffice", "counter", "(I)I"⟩
abbrev b_Office_counter : ByteArray := prog_1_method_17_code
def r_Office_counter (c s : Nat) : Room := { frames := 7, cells := c, slots := s, locals := 91 }
theorem d_Office_counter_0 : decode b_Office_counter 0 = .ok (.iload_n 1, 1) := by decide +kernel
theorem d_Office_counter_1 : decode b_Office_counter 1 = .ok (.invokestatic 100, 3) := by decide +kernel
theorem d_Office_counter_4 : decode b_Office_counter 4 = .ok (.ifCond .ne 13, 3) := by decide +kernel
theorem d_Office_counter_7 : decode b_Office_counter 7 = .ok (.new 191, 3) := by decide +kernel
theorem d_Office_counter_10 : decode b_Office_counter 10 = .ok (.dup, 1) := by decide +kernel
theorem d_Office_counter_11 : decode b_Office_counter 11 = .ok (.ldc 214, 2) := by decide +kernel
theorem d_Office_counter_13 : decode b_Office_counter 13 = .ok (.invokespecial 195, 3) := by decide +kernel
theorem d_Office_counter_16 : decode b_Office_counter 16 = .ok (.athrow, 1) := by decide +kernel
theorem d_Office_counter_17 : decode b_Office_counter 17 = .ok (.aload_n 0, 1) := by decide +kernel
theorem d_Office_counter_18 : decode b_Office_counter 18 = .ok (.getfield 56, 3) := by decide +kernel
theorem d_Office_counter_21 : decode b_Office_counter 21 = .ok (.getfield 216, 3) := by decide +kernel
theorem d_Office_counter_24 : decode b_Office_counter 24 = .ok (.iload_n 1, 1) := by decide +kernel
theorem d_Office_counter_25 : decode b_Office_counter 25 = .ok (.iaload, 1) := by decide +kernel
theorem d_Office_counter_26 : decode b_Office_counter 26 = .ok (.ireturn, 1) := by decide +kernel
theorem d_Office_counter : decode b_Office_counter 0 = .ok (.iload_n 1, 1) ∧ decode b_Office_counter 1 = .ok (.invokestatic 100, 3) ∧ decode b_Office_counter 4 = .ok (.ifCond .ne 13, 3) ∧ decode b_Office_counter 7 = .ok (.new 191, 3) ∧ decode b_Office_counter 10 = .ok (.dup, 1) ∧ decode b_Office_counter 11 = .ok (.ldc 214, 2) ∧ decode b_Office_counter 13 = .ok (.invokespecial 195, 3) ∧ decode b_Office_counter 16 = .ok (.athrow, 1) ∧ decode b_Office_counter 17 = .ok (.aload_n 0, 1) ∧ decode b_Office_counter 18 = .ok (.getfield 56, 3) ∧ decode b_Office_counter 21 = .ok (.getfield 216, 3) ∧ decode b_Office_counter 24 = .ok (.iload_n 1, 1) ∧ decode b_Office_counter 25 = .ok (.iaload, 1) ∧ decode b_Office_counter 26 = .ok (.ireturn, 1) := ⟨d_Office_counter_0, d_Office_counter_1, d_Office_counter_4, d_Office_counter_7, d_Office_counter_10, d_Office_counter_11, d_Office_counter_13, d_Office_counter_16, d_Office_counter_17, d_Office_counter_18, d_Office_counter_21, d_Office_counter_24, d_Office_counter_25, d_Office_counter_26⟩
theorem v_Office_counter : Cond.instanceMethod y_Office_counter ∈ nm_Ts ∧ Cond.selects y_Office_counter.cls y_Office_counter y_Office_counter ∈ nm_Ts ∧ Cond.initialized y_Office_counter.cls ∈ nm_Ts ∧ Cond.code y_Office_counter b_Office_counter 2 (some .int) ∈ nm_Ts ∧ mz_cl1 y_Office_counter 1 := ⟨nm_t4 73 rfl rfl, nm_t4 74 rfl rfl, nm_t1 1 rfl rfl, nm_t4 75 rfl rfl, by decide +kernel⟩
end
