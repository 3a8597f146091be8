def y_Law_pass : MethodName := ⟨"CardOfficeLaw", "pass", "(LCardOffice;IIZ[J)I"⟩
abbrev b_Law_pass : ByteArray := method_3_code
def r_Law_pass (c s : Nat) : Room := { frames := 8, cells := c, slots := s, locals := 136 }
theorem d_Law_pass : decode b_Law_pass 0 = .ok (.aload 4, 2) ∧ decode b_Law_pass 2 = .ok (.iconst 0, 1) ∧ decode b_Law_pass 3 = .ok (.aload_n 0, 1) ∧ decode b_Law_pass 4 = .ok (.iload_n 1, 1) ∧ decode b_Law_pass 5 = .ok (.iload_n 2, 1) ∧ decode b_Law_pass 6 = .ok (.iload_n 3, 1) ∧ decode b_Law_pass 7 = .ok (.invokevirtual 7, 3) ∧ decode b_Law_pass 10 = .ok (.i2l, 1) ∧ decode b_Law_pass 11 = .ok (.lastore, 1) ∧ decode b_Law_pass 12 = .ok (.goto 7, 3) ∧ decode b_Law_pass 15 = .ok (.astore 5, 2) ∧ decode b_Law_pass 17 = .ok (.iconst 1, 1) ∧ decode b_Law_pass 18 = .ok (.ireturn, 1) ∧ decode b_Law_pass 19 = .ok (.iconst 0, 1) ∧ decode b_Law_pass 20 = .ok (.ireturn, 1) := ⟨by decide +kernel, by decide +kernel, by decide +kernel, by decide +kernel, by decide +kernel, by decide +kernel, by decide +kernel, by decide +kernel, by decide +kernel, by decide +kernel, by decide +kernel, by decide +kernel, by decide +kernel, by decide +kernel, by decide +kernel⟩
theorem j_Law_pass : mz_t 12 7 = 19 ∧ (0 ≤ ((12 : Nat) : Int) + 7) := by decide +kernel
theorem sW_Law_pass : Cond.methodLink (nm_Own 13) 78 y_Law_pass ∈ nm_Ts ∧ Cond.static y_Law_pass ∈ nm_Ts ∧ Cond.initialized y_Law_pass.cls ∈ nm_Ts ∧ Cond.codeWith y_Law_pass b_Law_pass 6 (some .int) (nm_Hd b_Law_pass) ∈ nm_Ts ∧ mz_cl1 y_Law_pass 5 := ⟨nm_t2 94 rfl rfl, nm_t2 95 rfl rfl, nm_t1 0 rfl rfl, (show Cond.codeWith y_Law_pass b_Law_pass 6 (some .int) (nm_Hd b_Law_pass) ∈ nm_Ts by rw [show nm_Hd b_Law_pass = [(0, 12, 15, 13)] by decide +kernel]; exact nm_t2 96 rfl rfl), by decide +kernel⟩
def y_Law_sort : MethodName := ⟨"CardOfficeLaw", "sort", "(LCardOffice;III[J)I"⟩
abbrev b_Law_sort : ByteArray := method_4_code
def r_Law_sort (c s : Nat) : Room := { frames := 8, cells := c, slots := s, locals := 161 }
theorem d_Law_sort : decode b_Law_sort 0 = .ok (.aload 4, 2) ∧ decode b_Law_sort 2 = .ok (.iconst 0, 1) ∧ decode b_Law_sort 3 = .ok (.aload_n 0, 1) ∧ decode b_Law_sort 4 = .ok (.iload_n 1, 1) ∧ decode b_Law_sort 5 = .ok (.iload_n 2, 1) ∧ decode b_Law_sort 6 = .ok (.iload_n 3, 1) ∧ decode b_Law_sort 7 = .ok (.invokevirtual 15, 3) ∧ decode b_Law_sort 10 = .ok (.i2l, 1) ∧ decode b_Law_sort 11 = .ok (.lastore, 1) ∧ decode b_Law_sort 12 = .ok (.goto 7, 3) ∧ decode b_Law_sort 15 = .ok (.astore 5, 2) ∧ decode b_Law_sort 17 = .ok (.iconst 1, 1) ∧ decode b_Law_sort 18 = .ok (.ireturn, 1) ∧ decode b_Law_sort 19 = .ok (.iconst 0, 1) ∧ decode b_Law_sort 20 = .ok (.ireturn, 1) := ⟨by decide +kernel, by decide +kernel, by decide +kernel, by decide +kernel, by decide +kernel, by decide +kernel, by decide +kernel, by decide +kernel, by decide +kernel, by decide +kernel, by decide +kernel, by decide +kernel, by decide +kernel, by decide +kernel, by decide +kernel⟩
theorem j_Law_sort : mz_t 12 7 = 19 ∧ (0 ≤ ((12 : Nat) : Int) + 7) := by decide +kernel
theorem sW_Law_sort : Cond.methodLink (nm_Own 13) 84 y_Law_sort ∈ nm_Ts ∧ Cond.static y_Law_sort ∈ nm_Ts ∧ Cond.initialized y_Law_sort.cls ∈ nm_Ts ∧ Cond.codeWith y_Law_sort b_Law_sort 6 (some .int) (nm_Hd b_Law_sort) ∈ nm_Ts ∧ mz_cl1 y_Law_sort 5 := ⟨nm_t2 199 rfl rfl, nm_t2 200 rfl rfl, nm_t1 0 rfl rfl, (show Cond.codeWith y_Law_sort b_Law_sort 6 (some .int) (nm_Hd b_Law_sort) ∈ nm_Ts by rw [show nm_Hd b_Law_sort = [(0, 12, 15, 13)] by decide +kernel]; exact nm_t2 201 rfl rfl), by decide +kernel⟩
def y_Law_merge : MethodName := ⟨"CardOfficeLaw", "merge", "(LCardOffice;IIII[J)I"⟩
abbrev b_Law_merge : ByteArray := method_5_code
def r_Law_merge (c s : Nat) : Room := { frames := 8, cells := c, slots := s, locals := 161 }
theorem d_Law_merge : decode b_Law_merge 0 = .ok (.aload 5, 2) ∧ decode b_Law_merge 2 = .ok (.iconst 0, 1) ∧ decode b_Law_merge 3 = .ok (.aload_n 0, 1) ∧ decode b_Law_merge 4 = .ok (.iload_n 1, 1) ∧ decode b_Law_merge 5 = .ok (.iload_n 2, 1) ∧ decode b_Law_merge 6 = .ok (.iload_n 3, 1) ∧ decode b_Law_merge 7 = .ok (.iload 4, 2) ∧ decode b_Law_merge 9 = .ok (.invokevirtual 19, 3) ∧ decode b_Law_merge 12 = .ok (.i2l, 1) ∧ decode b_Law_merge 13 = .ok (.lastore, 1) ∧ decode b_Law_merge 14 = .ok (.goto 11, 3) ∧ decode b_Law_merge 17 = .ok (.astore 6, 2) ∧ decode b_Law_merge 19 = .ok (.iconst 1, 1) ∧ decode b_Law_merge 20 = .ok (.ireturn, 1) ∧ decode b_Law_merge 21 = .ok (.astore 6, 2) ∧ decode b_Law_merge 23 = .ok (.iconst 2, 1) ∧ decode b_Law_merge 24 = .ok (.ireturn, 1) ∧ decode b_Law_merge 25 = .ok (.iconst 0, 1) ∧ decode b_Law_merge 26 = .ok (.ireturn, 1) := ⟨by decide +kernel, by decide +kernel, by decide +kernel, by decide +kernel, by decide +kernel, by decide +kernel, by decide +kernel, by decide +kernel, by decide +kernel, by decide +kernel, by decide +kernel, by decide +kernel, by decide +kernel, by decide +kernel, by decide +kernel, by decide +kernel, by decide +kernel, by decide +kernel, by decide +kernel⟩
theorem j_Law_merge : mz_t 14 11 = 25 ∧ (0 ≤ ((14 : Nat) : Int) + 11) := by decide +kernel
theorem sW_Law_merge : Cond.methodLink (nm_Own 13) 88 y_Law_merge ∈ nm_Ts ∧ Cond.static y_Law_merge ∈ nm_Ts ∧ Cond.initialized y_Law_merge.cls ∈ nm_Ts ∧ Cond.codeWith y_Law_merge b_Law_merge 7 (some .int) (nm_Hd b_Law_merge) ∈ nm_Ts ∧ mz_cl1 y_Law_merge 6 := ⟨nm_t2 236 rfl rfl, nm_t2 237 rfl rfl, nm_t1 0 rfl rfl, (show Cond.codeWith y_Law_merge b_Law_merge 7 (some .int) (nm_Hd b_Law_merge) ∈ nm_Ts by rw [show nm_Hd b_Law_merge = [(0, 14, 17, 13), (0, 14, 21, 23)] by decide +kernel]; exact nm_t2 238 rfl rfl), by decide +kernel⟩
def y_Law_match : MethodName := ⟨"CardOfficeLaw", "match", "(LCardOffice;IIIII[J)I"⟩
abbrev b_Law_match : ByteArray := method_6_code
def r_Law_match (c s : Nat) : Room := { frames := 8, cells := c, slots := s, locals := 168 }
theorem d_Law_match : decode b_Law_match 0 = .ok (.aload 6, 2) ∧ decode b_Law_match 2 = .ok (.iconst 0, 1) ∧ decode b_Law_match 3 = .ok (.aload_n 0, 1) ∧ decode b_Law_match 4 = .ok (.iload_n 1, 1) ∧ decode b_Law_match 5 = .ok (.iload_n 2, 1) ∧ decode b_Law_match 6 = .ok (.iload_n 3, 1) ∧ decode b_Law_match 7 = .ok (.iload 4, 2) ∧ decode b_Law_match 9 = .ok (.iload 5, 2) ∧ decode b_Law_match 11 = .ok (.invokevirtual 25, 3) ∧ decode b_Law_match 14 = .ok (.i2l, 1) ∧ decode b_Law_match 15 = .ok (.lastore, 1) ∧ decode b_Law_match 16 = .ok (.goto 11, 3) ∧ decode b_Law_match 19 = .ok (.astore 7, 2) ∧ decode b_Law_match 21 = .ok (.iconst 1, 1) ∧ decode b_Law_match 22 = .ok (.ireturn, 1) ∧ decode b_Law_match 23 = .ok (.astore 7, 2) ∧ decode b_Law_match 25 = .ok (.iconst 2, 1) ∧ decode b_Law_match 26 = .ok (.ireturn, 1) ∧ decode b_Law_match 27 = .ok (.iconst 0, 1) ∧ decode b_Law_match 28 = .ok (.ireturn, 1) := ⟨by decide +kernel, by decide +kernel, by decide +kernel, by decide +kernel, by decide +kernel, by decide +kernel, by decide +kernel, by decide +kernel, by decide +kernel, by decide +kernel, by decide +kernel, by decide +kernel, by decide +kernel, by decide +kernel, by decide +kernel, by decide +kernel, by decide +kernel, by decide +kernel, by decide +kernel, by decide +kernel⟩
theorem j_Law_match : mz_t 16 11 = 27 ∧ (0 ≤ ((16 : Nat) : Int) + 11) := by decide +kernel
theorem sW_Law_match : Cond.methodLink (nm_Own 13) 92 y_Law_match ∈ nm_Ts ∧ Cond.static y_Law_match ∈ nm_Ts ∧ Cond.initialized y_Law_match.cls ∈ nm_Ts ∧ Cond.codeWith y_Law_match b_Law_match 8 (some .int) (nm_Hd b_Law_match) ∈ nm_Ts ∧ mz_cl1 y_Law_match 7 := ⟨nm_t3 36 rfl rfl, nm_t3 37 rfl rfl, nm_t1 0 rfl rfl, (show Cond.codeWith y_Law_match b_Law_match 8 (some .int) (nm_Hd b_Law_match) ∈ nm_Ts by rw [show nm_Hd b_Law_match = [(0, 16, 19, 13), (0, 16, 23, 23)] by decide +kernel]; exact nm_t3 38 rfl rfl), by decide +kernel⟩
def y_Law_reproduce : MethodName := ⟨"CardOfficeLaw", "reproduce", "(LCardOffice;III[J)I"⟩
abbrev b_Law_reproduce : ByteArray := method_7_code
def r_Law_reproduce (c s : Nat) : Room := { frames := 8, cells := c, slots := s, locals := 115 }
theorem d_Law_reproduce : decode b_Law_reproduce 0 = .ok (.aload 4, 2) ∧ decode b_Law_reproduce 2 = .ok (.iconst 0, 1) ∧ decode b_Law_reproduce 3 = .ok (.aload_n 0, 1) ∧ decode b_Law_reproduce 4 = .ok (.iload_n 1, 1) ∧ decode b_Law_reproduce 5 = .ok (.iload_n 2, 1) ∧ decode b_Law_reproduce 6 = .ok (.iload_n 3, 1) ∧ decode b_Law_reproduce 7 = .ok (.invokevirtual 29, 3) ∧ decode b_Law_reproduce 10 = .ok (.i2l, 1) ∧ decode b_Law_reproduce 11 = .ok (.lastore, 1) ∧ decode b_Law_reproduce 12 = .ok (.goto 7, 3) ∧ decode b_Law_reproduce 15 = .ok (.astore 5, 2) ∧ decode b_Law_reproduce 17 = .ok (.iconst 1, 1) ∧ decode b_Law_reproduce 18 = .ok (.ireturn, 1) ∧ decode b_Law_reproduce 19 = .ok (.iconst 0, 1) ∧ decode b_Law_reproduce 20 = .ok (.ireturn, 1) := ⟨by decide +kernel, by decide +kernel, by decide +kernel, by decide +kernel, by decide +kernel, by decide +kernel, by decide +kernel, by decide +kernel, by decide +kernel, by decide +kernel, by decide +kernel, by decide +kernel, by decide +kernel, by decide +kernel, by decide +kernel⟩
theorem j_Law_reproduce : mz_t 12 7 = 19 ∧ (0 ≤ ((12 : Nat) : Int) + 7) := by decide +kernel
theorem sW_Law_reproduce : Cond.methodLink (nm_Own 13) 96 y_Law_reproduce ∈ nm_Ts ∧ Cond.static y_Law_reproduce ∈ nm_Ts ∧ Cond.initialized y_Law_reproduce.cls ∈ nm_Ts ∧ Cond.codeWith y_Law_reproduce b_Law_reproduce 6 (some .int) (nm_Hd b_Law_reproduce) ∈ nm_Ts ∧ mz_cl1 y_Law_reproduce 5 := ⟨nm_t3 48 rfl rfl, nm_t3 49 rfl rfl, nm_t1 0 rfl rfl, (show Cond.codeWith y_Law_reproduce b_Law_reproduce 6 (some .int) (nm_Hd b_Law_reproduce) ∈ nm_Ts by rw [show nm_Hd b_Law_reproduce = [(0, 12, 15, 13)] by decide +kernel]; exact nm_t3 50 rfl rfl), by decide +kernel⟩
def y_Law_gang : MethodName := ⟨"CardOfficeLaw", "gang", "(LCardOffice;III[J)I"⟩
abbrev b_Law_gang : ByteArray := method_8_code
def r_Law_gang (c s : Nat) : Room := { frames := 8, cells := c, slots := s, locals := 116 }
theorem d_Law_gang : decode b_Law_gang 0 = .ok (.aload 4, 2) ∧ decode b_Law_gang 2 = .ok (.iconst 0, 1) ∧ decode b_Law_gang 3 = .ok (.aload_n 0, 1) ∧ decode b_Law_gang 4 = .ok (.iload_n 1, 1) ∧ decode b_Law_gang 5 = .ok (.iload_n 2, 1) ∧ decode b_Law_gang 6 = .ok (.iload_n 3, 1) ∧ decode b_Law_gang 7 = .ok (.invokevirtual 32, 3) ∧ decode b_Law_gang 10 = .ok (.i2l, 1) ∧ decode b_Law_gang 11 = .ok (.lastore, 1) ∧ decode b_Law_gang 12 = .ok (.goto 7, 3) ∧ decode b_Law_gang 15 = .ok (.astore 5, 2) ∧ decode b_Law_gang 17 = .ok (.iconst 1, 1) ∧ decode b_Law_gang 18 = .ok (.ireturn, 1) ∧ decode b_Law_gang 19 = .ok (.iconst 0, 1) ∧ decode b_Law_gang 20 = .ok (.ireturn, 1) := ⟨by decide +kernel, by decide +kernel, by decide +kernel, by decide +kernel, by decide +kernel, by decide +kernel, by decide +kernel, by decide +kernel, by decide +kernel, by decide +kernel, by decide +kernel, by decide +kernel, by decide +kernel, by decide +kernel, by decide +kernel⟩
theorem j_Law_gang : mz_t 12 7 = 19 ∧ (0 ≤ ((12 : Nat) : Int) + 7) := by decide +kernel
theorem sW_Law_gang : Cond.methodLink (nm_Own 13) 103 y_Law_gang ∈ nm_Ts ∧ Cond.static y_Law_gang ∈ nm_Ts ∧ Cond.initialized y_Law_gang.cls ∈ nm_Ts ∧ Cond.codeWith y_Law_gang b_Law_gang 6 (some .int) (nm_Hd b_Law_gang) ∈ nm_Ts ∧ mz_cl1 y_Law_gang 5 := ⟨nm_t3 105 rfl rfl, nm_t3 106 rfl rfl, nm_t1 0 rfl rfl, (show Cond.codeWith y_Law_gang b_Law_gang 6 (some .int) (nm_Hd b_Law_gang) ∈ nm_Ts by rw [show nm_Hd b_Law_gang = [(0, 12, 15, 13)] by decide +kernel]; exact nm_t3 107 rfl rfl), by decide +kernel⟩
def y_Law_multiply : MethodName := ⟨"CardOfficeLaw", "multiply", "(LCardOffice;IIII[J)I"⟩
abbrev b_Law_multiply : ByteArray := method_9_code
def r_Law_multiply (c s : Nat) : Room := { frames := 8, cells := c, slots := s, locals := 164 }
theorem d_Law_multiply : decode b_Law_multiply 0 = .ok (.aload 5, 2) ∧ decode b_Law_multiply 2 = .ok (.iconst 0, 1) ∧ decode b_Law_multiply 3 = .ok (.aload_n 0, 1) ∧ decode b_Law_multiply 4 = .ok (.iload_n 1, 1) ∧ decode b_Law_multiply 5 = .ok (.iload_n 2, 1) ∧ decode b_Law_multiply 6 = .ok (.iload_n 3, 1) ∧ decode b_Law_multiply 7 = .ok (.iload 4, 2) ∧ decode b_Law_multiply 9 = .ok (.invokevirtual 35, 3) ∧ decode b_Law_multiply 12 = .ok (.i2l, 1) ∧ decode b_Law_multiply 13 = .ok (.lastore, 1) ∧ decode b_Law_multiply 14 = .ok (.goto 7, 3) ∧ decode b_Law_multiply 17 = .ok (.astore 6, 2) ∧ decode b_Law_multiply 19 = .ok (.iconst 1, 1) ∧ decode b_Law_multiply 20 = .ok (.ireturn, 1) ∧ decode b_Law_multiply 21 = .ok (.iconst 0, 1) ∧ decode b_Law_multiply 22 = .ok (.ireturn, 1) := ⟨by decide +kernel, by decide +kernel, by decide +kernel, by decide +kernel, by decide +kernel, by decide +kernel, by decide +kernel, by decide +kernel, by decide +kernel, by decide +kernel, by decide +kernel, by decide +kernel, by decide +kernel, by decide +kernel, by decide +kernel, by decide +kernel⟩
theorem j_Law_multiply : mz_t 14 7 = 21 ∧ (0 ≤ ((14 : Nat) : Int) + 7) := by decide +kernel
theorem sW_Law_multiply : Cond.methodLink (nm_Own 13) 106 y_Law_multiply ∈ nm_Ts ∧ Cond.static y_Law_multiply ∈ nm_Ts ∧ Cond.initialized y_Law_multiply.cls ∈ nm_Ts ∧ Cond.codeWith y_Law_multiply b_Law_multiply 7 (some .int) (nm_Hd b_Law_multiply) ∈ nm_Ts ∧ mz_cl1 y_Law_multiply 6 := ⟨nm_t3 130 rfl rfl, nm_t3 131 rfl rfl, nm_t1 0 rfl rfl, (show Cond.codeWith y_Law_multiply b_Law_multiply 7 (some .int) (nm_Hd b_Law_multiply) ∈ nm_Ts by rw [show nm_Hd b_Law_multiply = [(0, 14, 17, 13)] by decide +kernel]; exact nm_t3 132 rfl rfl), by decide +kernel⟩
def y_Law_tabulate : MethodName := ⟨"CardOfficeLaw", "tabulate", "(LCardOffice;II[J)I"⟩
abbrev b_Law_tabulate : ByteArray := method_10_code
def r_Law_tabulate (c s : Nat) : Room := { frames := 8, cells := c, slots := s, locals := 187 }
theorem d_Law_tabulate : decode b_Law_tabulate 0 = .ok (.aload_n 3, 1) ∧ decode b_Law_tabulate 1 = .ok (.iconst 0, 1) ∧ decode b_Law_tabulate 2 = .ok (.aload_n 0, 1) ∧ decode b_Law_tabulate 3 = .ok (.iload_n 1, 1) ∧ decode b_Law_tabulate 4 = .ok (.iload_n 2, 1) ∧ decode b_Law_tabulate 5 = .ok (.invokevirtual 38, 3) ∧ decode b_Law_tabulate 8 = .ok (.i2l, 1) ∧ decode b_Law_tabulate 9 = .ok (.lastore, 1) ∧ decode b_Law_tabulate 10 = .ok (.goto 7, 3) ∧ decode b_Law_tabulate 13 = .ok (.astore 4, 2) ∧ decode b_Law_tabulate 15 = .ok (.iconst 1, 1) ∧ decode b_Law_tabulate 16 = .ok (.ireturn, 1) ∧ decode b_Law_tabulate 17 = .ok (.iconst 0, 1) ∧ decode b_Law_tabulate 18 = .ok (.ireturn, 1) := ⟨by decide +kernel, by decide +kernel, by decide +kernel, by decide +kernel, by decide +kernel, by decide +kernel, by decide +kernel, by decide +kernel, by decide +kernel, by decide +kernel, by decide +kernel, by decide +kernel, by decide +kernel, by decide +kernel⟩
theorem j_Law_tabulate : mz_t 10 7 = 17 ∧ (0 ≤ ((10 : Nat) : Int) + 7) := by decide +kernel
theorem sW_Law_tabulate : Cond.methodLink (nm_Own 13) 109 y_Law_tabulate ∈ nm_Ts ∧ Cond.static y_Law_tabulate ∈ nm_Ts ∧ Cond.initialized y_Law_tabulate.cls ∈ nm_Ts ∧ Cond.codeWith y_Law_tabulate b_Law_tabulate 5 (some .int) (nm_Hd b_Law_tabulate) ∈ nm_Ts ∧ mz_cl1 y_Law_tabulate 4 := ⟨nm_t3 186 rfl rfl, nm_t3 187 rfl rfl, nm_t1 0 rfl rfl, (show Cond.codeWith y_Law_tabulate b_Law_tabulate 5 (some .int) (nm_Hd b_Law_tabulate) ∈ nm_Ts by rw [show nm_Hd b_Law_tabulate = [(0, 10, 13, 13)] by decide +kernel]; exact nm_t3 188 rfl rfl), by decide +kernel⟩
def y_Law_sign : MethodName := ⟨"CardOfficeLaw", "sign", "(LCardOffice;III[J)I"⟩
abbrev b_Law_sign : ByteArray := method_11_code
def r_Law_sign (c s : Nat) : Room := { frames := 8, cells := c, slots := s, locals := 114 }
theorem d_Law_sign : decode b_Law_sign 0 = .ok (.aload 4, 2) ∧ decode b_Law_sign 2 = .ok (.iconst 0, 1) ∧ decode b_Law_sign 3 = .ok (.aload_n 0, 1) ∧ decode b_Law_sign 4 = .ok (.iload_n 1, 1) ∧ decode b_Law_sign 5 = .ok (.iload_n 2, 1) ∧ decode b_Law_sign 6 = .ok (.iload_n 3, 1) ∧ decode b_Law_sign 7 = .ok (.invokevirtual 42, 3) ∧ decode b_Law_sign 10 = .ok (.i2l, 1) ∧ decode b_Law_sign 11 = .ok (.lastore, 1) ∧ decode b_Law_sign 12 = .ok (.goto 7, 3) ∧ decode b_Law_sign 15 = .ok (.astore 5, 2) ∧ decode b_Law_sign 17 = .ok (.iconst 1, 1) ∧ decode b_Law_sign 18 = .ok (.ireturn, 1) ∧ decode b_Law_sign 19 = .ok (.iconst 0, 1) ∧ decode b_Law_sign 20 = .ok (.ireturn, 1) := ⟨by decide +kernel, by decide +kernel, by decide +kernel, by decide +kernel, by decide +kernel, by decide +kernel, by decide +kernel, by decide +kernel, by decide +kernel, by decide +kernel, by decide +kernel, by decide +kernel, by decide +kernel, by decide +kernel, by decide +kernel⟩
theorem j_Law_sign : mz_t 12 7 = 19 ∧ (0 ≤ ((12 : Nat) : Int) + 7) := by decide +kernel
theorem sW_Law_sign : Cond.methodLink (nm_Own 13) 117 y_Law_sign ∈ nm_Ts ∧ Cond.static y_Law_sign ∈ nm_Ts ∧ Cond.initialized y_Law_sign.cls ∈ nm_Ts ∧ Cond.codeWith y_Law_sign b_Law_sign 6 (some .int) (nm_Hd b_Law_sign) ∈ nm_Ts ∧ mz_cl1 y_Law_sign 5 := ⟨nm_t4 36 rfl rfl, nm_t4 37 rfl rfl, nm_t1 0 rfl rfl, (show Cond.codeWith y_Law_sign b_Law_sign 6 (some .int) (nm_Hd b_Law_sign) ∈ nm_Ts by rw [show nm_Hd b_Law_sign = [(0, 12, 15, 45)] by decide +kernel]; exact nm_t4 38 rfl rfl), by decide +kernel⟩
def y_Law_printed : MethodName := ⟨"CardOfficeLaw", "printed", "(LCardOffice;II[J)I"⟩
abbrev b_Law_printed : ByteArray := method_12_code
def r_Law_printed (c s : Nat) : Room := { frames := 8, cells := c, slots := s, locals := 113 }
theorem d_Law_printed : decode b_Law_printed 0 = .ok (.aload_n 3, 1) ∧ decode b_Law_printed 1 = .ok (.iconst 0, 1) ∧ decode b_Law_printed 2 = .ok (.aload_n 0, 1) ∧ decode b_Law_printed 3 = .ok (.iload_n 1, 1) ∧ decode b_Law_printed 4 = .ok (.iload_n 2, 1) ∧ decode b_Law_printed 5 = .ok (.invokevirtual 47, 3) ∧ decode b_Law_printed 8 = .ok (.i2l, 1) ∧ decode b_Law_printed 9 = .ok (.lastore, 1) ∧ decode b_Law_printed 10 = .ok (.goto 7, 3) ∧ decode b_Law_printed 13 = .ok (.astore 4, 2) ∧ decode b_Law_printed 15 = .ok (.iconst 1, 1) ∧ decode b_Law_printed 16 = .ok (.ireturn, 1) ∧ decode b_Law_printed 17 = .ok (.iconst 0, 1) ∧ decode b_Law_printed 18 = .ok (.ireturn, 1) := ⟨by decide +kernel, by decide +kernel, by decide +kernel, by decide +kernel, by decide +kernel, by decide +kernel, by decide +kernel, by decide +kernel, by decide +kernel, by decide +kernel, by decide +kernel, by decide +kernel, by decide +kernel, by decide +kernel⟩
theorem j_Law_printed : mz_t 10 7 = 17 ∧ (0 ≤ ((10 : Nat) : Int) + 7) := by decide +kernel
theorem sW_Law_printed : Cond.methodLink (nm_Own 13) 120 y_Law_printed ∈ nm_Ts ∧ Cond.static y_Law_printed ∈ nm_Ts ∧ Cond.initialized y_Law_printed.cls ∈ nm_Ts ∧ Cond.codeWith y_Law_printed b_Law_printed 5 (some .int) (nm_Hd b_Law_printed) ∈ nm_Ts ∧ mz_cl1 y_Law_printed 4 := ⟨nm_t4 61 rfl rfl, nm_t4 62 rfl rfl, nm_t1 0 rfl rfl, (show Cond.codeWith y_Law_printed b_Law_printed 5 (some .int) (nm_Hd b_Law_printed) ∈ nm_Ts by rw [show nm_Hd b_Law_printed = [(0, 10, 13, 45)] by decide +kernel]; exact nm_t4 63 rfl rfl), by decide +kernel⟩
def y_Law_counter : MethodName := ⟨"CardOfficeLaw", "counter", "(LCardOffice;I[J)I"⟩
abbrev b_Law_counter : ByteArray := method_13_code
def r_Law_counter (c s : Nat) : Room := { frames := 8, cells := c, slots := s, locals := 112 }
theorem d_Law_counter : decode b_Law_counter 0 = .ok (.aload_n 2, 1) ∧ decode b_Law_counter 1 = .ok (.iconst 0, 1) ∧ decode b_Law_counter 2 = .ok (.aload_n 0, 1) ∧ decode b_Law_counter 3 = .ok (.iload_n 1, 1) ∧ decode b_Law_counter 4 = .ok (.invokevirtual 50, 3) ∧ decode b_Law_counter 7 = .ok (.i2l, 1) ∧ decode b_Law_counter 8 = .ok (.lastore, 1) ∧ decode b_Law_counter 9 = .ok (.goto 6, 3) ∧ decode b_Law_counter 12 = .ok (.astore_n 3, 1) ∧ decode b_Law_counter 13 = .ok (.iconst 1, 1) ∧ decode b_Law_counter 14 = .ok (.ireturn, 1) ∧ decode b_Law_counter 15 = .ok (.iconst 0, 1) ∧ decode b_Law_counter 16 = .ok (.ireturn, 1) := ⟨by decide +kernel, by decide +kernel, by decide +kernel, by decide +kernel, by decide +kernel, by decide +kernel, by decide +kernel, by decide +kernel, by decide +kernel, by decide +kernel, by decide +kernel, by decide +kernel, by decide +kernel⟩
theorem j_Law_counter : mz_t 9 6 = 15 ∧ (0 ≤ ((9 : Nat) : Int) + 6) := by decide +kernel
theorem sW_Law_counter : Cond.methodLink (nm_Own 13) 123 y_Law_counter ∈ nm_Ts ∧ Cond.static y_Law_counter ∈ nm_Ts ∧ Cond.initialized y_Law_counter.cls ∈ nm_Ts ∧ Cond.codeWith y_Law_counter b_Law_counter 4 (some .int) (nm_Hd b_Law_counter) ∈ nm_Ts ∧ mz_cl1 y_Law_counter 3 := ⟨nm_t4 69 rfl rfl, nm_t4 70 rfl rfl, nm_t1 0 rfl rfl, (show Cond.codeWith y_Law_counter b_Law_counter 4 (some .int) (nm_Hd b_Law_counter) ∈ nm_Ts by rw [show nm_Hd b_Law_counter = [(0, 9, 12, 45)] by decide +kernel]; exact nm_t4 71 rfl rfl), by decide +kernel⟩
theorem g_13_54 : mz_ci 13 54 y_Office_init b_Office_init 2 0 := ⟨Or.inl (nm_t1 25 rfl rfl), i_Office_init⟩
theorem g_13_60 : mz_cv 13 60 y_Office_card b_Office_card 8 (some .boolean) 3 := ⟨Or.inl (nm_t1 230 rfl rfl), v_Office_card⟩
theorem l_13_60 : Cond.methodLink (nm_Own 13) 60 y_Office_card ∈ nm_Ts := nm_t1 230 rfl rfl
theorem g_13_65 : mz_cv 13 65 y_Office_wire b_Office_wire 4 (some .boolean) 3 := ⟨Or.inl (nm_t2 28 rfl rfl), v_Office_wire⟩
theorem l_13_65 : Cond.methodLink (nm_Own 13) 65 y_Office_wire ∈ nm_Ts := nm_t2 28 rfl rfl
theorem g_13_70 : mz_cv 13 70 y_Office_strip b_Office_strip 2 (some .int) 1 := ⟨Or.inl (nm_t2 52 rfl rfl), v_Office_strip⟩
theorem l_13_70 : Cond.methodLink (nm_Own 13) 70 y_Office_strip ∈ nm_Ts := nm_t2 52 rfl rfl
theorem g_13_74 : mz_cv 13 74 y_Office_level b_Office_level 4 (some .boolean) 3 := ⟨Or.inl (nm_t2 60 rfl rfl), v_Office_level⟩
theorem l_13_74 : Cond.methodLink (nm_Own 13) 74 y_Office_level ∈ nm_Ts := nm_t2 60 rfl rfl
theorem g_13_113 : mz_cv 13 113 y_Office_cut b_Office_cut 4 (some .boolean) 3 := ⟨Or.inl (nm_t2 67 rfl rfl), v_Office_cut⟩
theorem l_13_113 : Cond.methodLink (nm_Own 13) 113 y_Office_cut ∈ nm_Ts := nm_t2 67 rfl rfl
theorem g_13_127 : mz_cv 13 127 y_Office_tear b_Office_tear 2 (some .int) 0 := ⟨Or.inl (nm_t2 82 rfl rfl), v_Office_tear⟩
theorem l_13_127 : Cond.methodLink (nm_Own 13) 127 y_Office_tear ∈ nm_Ts := nm_t2 82 rfl rfl
theorem g_13_131 : mz_cv 13 131 y_Office_fault b_Office_fault 2 (some .int) 1 := ⟨Or.inl (nm_t2 86 rfl rfl), v_Office_fault⟩
theorem l_13_131 : Cond.methodLink (nm_Own 13) 131 y_Office_fault ∈ nm_Ts := nm_t2 86 rfl rfl
theorem g_13_135 : mz_cv 13 135 y_Office_count b_Office_count 2 (some .int) 1 := ⟨Or.inl (nm_t2 90 rfl rfl), v_Office_count⟩
theorem l_13_135 : Cond.methodLink (nm_Own 13) 135 y_Office_count ∈ nm_Ts := nm_t2 90 rfl rfl
theorem g_13_7 : mz_cv 13 7 y_Office_pass b_Office_pass 4 (some .int) 3 := ⟨Or.inl (nm_t2 98 rfl rfl), v_Office_pass⟩
theorem l_13_7 : Cond.methodLink (nm_Own 13) 7 y_Office_pass ∈ nm_Ts := nm_t2 98 rfl rfl
theorem g_13_15 : mz_cv 13 15 y_Office_sort b_Office_sort 4 (some .int) 3 := ⟨Or.inl (nm_t2 202 rfl rfl), v_Office_sort⟩
theorem l_13_15 : Cond.methodLink (nm_Own 13) 15 y_Office_sort ∈ nm_Ts := nm_t2 202 rfl rfl
theorem g_13_19 : mz_cv 13 19 y_Office_merge b_Office_merge 5 (some .int) 4 := ⟨Or.inl (nm_t3 0 rfl rfl), v_Office_merge⟩
theorem l_13_19 : Cond.methodLink (nm_Own 13) 19 y_Office_merge ∈ nm_Ts := nm_t3 0 rfl rfl
theorem g_13_25 : mz_cv 13 25 y_Office_match b_Office_match 6 (some .int) 5 := ⟨Or.inl (nm_t3 39 rfl rfl), v_Office_match⟩
theorem l_13_25 : Cond.methodLink (nm_Own 13) 25 y_Office_match ∈ nm_Ts := nm_t3 39 rfl rfl
theorem g_13_29 : mz_cv 13 29 y_Office_reproduce b_Office_reproduce 4 (some .int) 3 := ⟨Or.inl (nm_t3 51 rfl rfl), v_Office_reproduce⟩
theorem l_13_29 : Cond.methodLink (nm_Own 13) 29 y_Office_reproduce ∈ nm_Ts := nm_t3 51 rfl rfl
theorem g_13_32 : mz_cv 13 32 y_Office_gang b_Office_gang 4 (some .int) 3 := ⟨Or.inl (nm_t3 108 rfl rfl), v_Office_gang⟩
theorem l_13_32 : Cond.methodLink (nm_Own 13) 32 y_Office_gang ∈ nm_Ts := nm_t3 108 rfl rfl
theorem g_13_35 : mz_cv 13 35 y_Office_multiply b_Office_multiply 5 (some .int) 4 := ⟨Or.inl (nm_t3 133 rfl rfl), v_Office_multiply⟩
theorem l_13_35 : Cond.methodLink (nm_Own 13) 35 y_Office_multiply ∈ nm_Ts := nm_t3 133 rfl rfl
theorem g_13_38 : mz_cv 13 38 y_Office_tabulate b_Office_tabulate 3 (some .int) 2 := ⟨Or.inl (nm_t3 189 rfl rfl), v_Office_tabulate⟩
theorem l_13_38 : Cond.methodLink (nm_Own 13) 38 y_Office_tabulate ∈ nm_Ts := nm_t3 189 rfl rfl
theorem g_13_42 : mz_cv 13 42 y_Office_sign b_Office_sign 4 (some .int) 3 := ⟨Or.inl (nm_t4 40 rfl rfl), v_Office_sign⟩
theorem l_13_42 : Cond.methodLink (nm_Own 13) 42 y_Office_sign ∈ nm_Ts := nm_t4 40 rfl rfl
theorem g_13_47 : mz_cv 13 47 y_Office_printed b_Office_printed 3 (some .int) 2 := ⟨Or.inl (nm_t4 64 rfl rfl), v_Office_printed⟩
theorem l_13_47 : Cond.methodLink (nm_Own 13) 47 y_Office_printed ∈ nm_Ts := nm_t4 64 rfl rfl
theorem g_13_50 : mz_cv 13 50 y_Office_counter b_Office_counter 2 (some .int) 1 := ⟨Or.inl (nm_t4 72 rfl rfl), v_Office_counter⟩
theorem l_13_50 : Cond.methodLink (nm_Own 13) 50 y_Office_counter ∈ nm_Ts := nm_t4 72 rfl rfl
theorem g_13_57 : mz_ci 13 57 y_Model_init b_Model_init 2 0 := ⟨Or.inl (nm_t4 79 rfl rfl), i_Model_init⟩
theorem g_13_99 : mz_cv 13 99 y_Model_thrown b_Model_thrown 1 (some .int) 0 := ⟨Or.inl (nm_t4 142 rfl rfl), v_Model_thrown⟩
theorem l_13_99 : Cond.methodLink (nm_Own 13) 99 y_Model_thrown ∈ nm_Ts := nm_t4 142 rfl rfl
theorem g_13_64 : mz_cv 13 64 y_Model_card b_Model_card 9 (some .boolean) 3 := ⟨Or.inl (nm_t4 146 rfl rfl), v_Model_card⟩
theorem l_13_64 : Cond.methodLink (nm_Own 13) 64 y_Model_card ∈ nm_Ts := nm_t4 146 rfl rfl
theorem g_13_69 : mz_cv 13 69 y_Model_wire b_Model_wire 5 (some .boolean) 3 := ⟨Or.inl (nm_t4 165 rfl rfl), v_Model_wire⟩
theorem l_13_69 : Cond.methodLink (nm_Own 13) 69 y_Model_wire ∈ nm_Ts := nm_t4 165 rfl rfl
theorem g_13_73 : mz_cv 13 73 y_Model_strip b_Model_strip 4 (some .int) 1 := ⟨Or.inl (nm_t4 178 rfl rfl), v_Model_strip⟩
theorem l_13_73 : Cond.methodLink (nm_Own 13) 73 y_Model_strip ∈ nm_Ts := nm_t4 178 rfl rfl
theorem g_13_77 : mz_cv 13 77 y_Model_level b_Model_level 4 (some .boolean) 3 := ⟨Or.inl (nm_t4 182 rfl rfl), v_Model_level⟩
theorem l_13_77 : Cond.methodLink (nm_Own 13) 77 y_Model_level ∈ nm_Ts := nm_t4 182 rfl rfl
theorem g_13_83 : mz_cv 13 83 y_Model_pass b_Model_pass 4 (some .int) 3 := ⟨Or.inl (nm_t4 186 rfl rfl), v_Model_pass⟩
theorem l_13_83 : Cond.methodLink (nm_Own 13) 83 y_Model_pass ∈ nm_Ts := nm_t4 186 rfl rfl
theorem g_13_87 : mz_cv 13 87 y_Model_sort b_Model_sort 8 (some .int) 3 := ⟨Or.inl (nm_t4 215 rfl rfl), v_Model_sort⟩
theorem l_13_87 : Cond.methodLink (nm_Own 13) 87 y_Model_sort ∈ nm_Ts := nm_t4 215 rfl rfl
theorem g_13_91 : mz_cv 13 91 y_Model_merge b_Model_merge 8 (some .int) 4 := ⟨Or.inl (nm_t4 237 rfl rfl), v_Model_merge⟩
theorem l_13_91 : Cond.methodLink (nm_Own 13) 91 y_Model_merge ∈ nm_Ts := nm_t4 237 rfl rfl
theorem g_13_95 : mz_cv 13 95 y_Model_match b_Model_match 9 (some .int) 5 := ⟨Or.inl (nm_t5 1 rfl rfl), v_Model_match⟩
theorem l_13_95 : Cond.methodLink (nm_Own 13) 95 y_Model_match ∈ nm_Ts := nm_t5 1 rfl rfl
theorem g_13_98 : mz_cv 13 98 y_Model_reproduce b_Model_reproduce 9 (some .int) 3 := ⟨Or.inl (nm_t5 17 rfl rfl), v_Model_reproduce⟩
theorem l_13_98 : Cond.methodLink (nm_Own 13) 98 y_Model_reproduce ∈ nm_Ts := nm_t5 17 rfl rfl
theorem g_13_105 : mz_cv 13 105 y_Model_gang b_Model_gang 10 (some .int) 3 := ⟨Or.inl (nm_t5 33 rfl rfl), v_Model_gang⟩
theorem l_13_105 : Cond.methodLink (nm_Own 13) 105 y_Model_gang ∈ nm_Ts := nm_t5 33 rfl rfl
theorem g_13_108 : mz_cv 13 108 y_Model_multiply b_Model_multiply 13 (some .int) 4 := ⟨Or.inl (nm_t5 41 rfl rfl), v_Model_multiply⟩
theorem l_13_108 : Cond.methodLink (nm_Own 13) 108 y_Model_multiply ∈ nm_Ts := nm_t5 41 rfl rfl
theorem g_13_112 : mz_cv 13 112 y_Model_tabulate b_Model_tabulate 7 (some .int) 2 := ⟨Or.inl (nm_t5 64 rfl rfl), v_Model_tabulate⟩
theorem l_13_112 : Cond.methodLink (nm_Own 13) 112 y_Model_tabulate ∈ nm_Ts := nm_t5 64 rfl rfl
theorem g_13_116 : mz_cv 13 116 y_Model_cut b_Model_cut 5 (some .boolean) 3 := ⟨Or.inl (nm_t5 117 rfl rfl), v_Model_cut⟩
theorem l_13_116 : Cond.methodLink (nm_Own 13) 116 y_Model_cut ∈ nm_Ts := nm_t5 117 rfl rfl
theorem g_13_119 : mz_cv 13 119 y_Model_sign b_Model_sign 5 (some .int) 3 := ⟨Or.inl (nm_t5 121 rfl rfl), v_Model_sign⟩
theorem l_13_119 : Cond.methodLink (nm_Own 13) 119 y_Model_sign ∈ nm_Ts := nm_t5 121 rfl rfl
theorem g_13_122 : mz_cv 13 122 y_Model_printed b_Model_printed 3 (some .int) 2 := ⟨Or.inl (nm_t5 125 rfl rfl), v_Model_printed⟩
theorem l_13_122 : Cond.methodLink (nm_Own 13) 122 y_Model_printed ∈ nm_Ts := nm_t5 125 rfl rfl
theorem g_13_126 : mz_cv 13 126 y_Model_counter b_Model_counter 2 (some .int) 1 := ⟨Or.inl (nm_t5 129 rfl rfl), v_Model_counter⟩
theorem l_13_126 : Cond.methodLink (nm_Own 13) 126 y_Model_counter ∈ nm_Ts := nm_t5 129 rfl rfl
theorem g_13_130 : mz_cv 13 130 y_Model_tear b_Model_tear 2 (some .int) 0 := ⟨Or.inl (nm_t5 133 rfl rfl), v_Model_tear⟩
theorem l_13_130 : Cond.methodLink (nm_Own 13) 130 y_Model_tear ∈ nm_Ts := nm_t5 133 rfl rfl
theorem g_13_134 : mz_cv 13 134 y_Model_fault b_Model_fault 2 (some .int) 1 := ⟨Or.inl (nm_t5 137 rfl rfl), v_Model_fault⟩
theorem l_13_134 : Cond.methodLink (nm_Own 13) 134 y_Model_fault ∈ nm_Ts := nm_t5 137 rfl rfl
theorem g_13_138 : mz_cv 13 138 y_Model_count b_Model_count 2 (some .int) 1 := ⟨Or.inl (nm_t5 141 rfl rfl), v_Model_count⟩
theorem l_13_138 : Cond.methodLink (nm_Own 13) 138 y_Model_count ∈ nm_Ts := nm_t5 141 rfl rfl
theorem k_13_13 : Cond.classLink (nm_Own 13) 13 "java/lang/IllegalArgumentException" ∈ nm_Ts := nm_t2 97 rfl rfl
theorem k_cs_13 : Cond.castable "java/lang/IllegalArgumentException" "java/lang/IllegalArgumentException" ∈ nm_Ns := nm_n2 104 rfl rfl
theorem k_13_23 : Cond.classLink (nm_Own 13) 23 "java/lang/IllegalStateException" ∈ nm_Ts := nm_t2 239 rfl rfl
theorem k_cs_23 : Cond.castable "java/lang/IllegalStateException" "java/lang/IllegalStateException" ∈ nm_Ns := nm_n3 8 rfl rfl
theorem k_13_45 : Cond.classLink (nm_Own 13) 45 "java/lang/IndexOutOfBoundsException" ∈ nm_Ts := nm_t4 39 rfl rfl
theorem k_cs_45 : Cond.castable "java/lang/IndexOutOfBoundsException" "java/lang/IndexOutOfBoundsException" ∈ nm_Ns := nm_n4 46 rfl rfl
