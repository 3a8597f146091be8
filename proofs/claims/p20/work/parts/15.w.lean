section
def y_Law_pass : MethodName := ⟨"CardOfficeLaw", "pass", "(LCardOffice;IIZ[J)I"⟩
abbrev b_Law_pass : ByteArray := method_3_code
def r_Law_pass (c s : Nat) : Room := { frames := 8, cells := c, slots := s, locals := 136 }
theorem d_Law_pass : decode b_Law_pass 0 = .ok (.aload 4, 2) ∧ decode b_Law_pass 2 = .ok (.iconst 0, 1) ∧ decode b_Law_pass 3 = .ok (.aload_n 0, 1) ∧ decode b_Law_pass 4 = .ok (.iload_n 1, 1) ∧ decode b_Law_pass 5 = .ok (.iload_n 2, 1) ∧ decode b_Law_pass 6 = .ok (.iload_n 3, 1) ∧ decode b_Law_pass 7 = .ok (.invokevirtual 7, 3) ∧ decode b_Law_pass 10 = .ok (.i2l, 1) ∧ decode b_Law_pass 11 = .ok (.lastore, 1) ∧ decode b_Law_pass 12 = .ok (.goto 7, 3) ∧ decode b_Law_pass 15 = .ok (.astore 5, 2) ∧ decode b_Law_pass 17 = .ok (.iconst 1, 1) ∧ decode b_Law_pass 18 = .ok (.ireturn, 1) ∧ decode b_Law_pass 19 = .ok (.iconst 0, 1) ∧ decode b_Law_pass 20 = .ok (.ireturn, 1) := ⟨by decide +kernel, by decide +kernel, by decide +kernel, by decide +kernel, by decide +kernel, by decide +kernel, by decide +kernel, by decide +kernel, by decide +kernel, by decide +kernel, by decide +kernel, by decide +kernel, by decide +kernel, by decide +kernel, by decide +kernel⟩
theorem j_Law_pass : mz_t 12 7 = 19 ∧ (0 ≤ ((12 : Nat) : Int) + 7) := by decide +kernel
theorem sW_Law_pass : Cond.methodLink (nm_Own 13) 78 y_Law_pass ∈ nm_Ts ∧ Cond.static y_Law_pass ∈ nm_Ts ∧ Cond.initialized y_Law_pass.cls ∈ nm_Ts ∧ Cond.codeWith y_Law_pass b_Law_pass 6 (some .int) (nm_Hd b_Law_pass) ∈ nm_Ts ∧ mz_cl1 y_Law_pass 5 := ⟨nm_t2 94 rfl rfl, nm_t2 95 rfl rfl, nm_t1 0 rfl rfl, (show Cond.codeWith y_Law_pass b_Law_pass 6 (some .int) (nm_Hd b_Law_pass) ∈ nm_Ts by rw [show nm_Hd b_Law_pass = [(0, 12, 15, 13)] by decide +kernel]; exact nm_t2 96 rfl rfl), by decide +kernel⟩
def y_Law_sort : MethodName := ⟨"CardOfficeLaw", "sort", "(LCardOffice;III[J)I"⟩
abbrev b_Law_sort : ByteArray := method_4_code
def r_Law_sort (c s : Nat) : Room := { frames := 8, cells := c, slots := s, locals := 161 }
theorem d_Law_sort : decode b_Law_sort 0 = .ok (.aload 4, 2) ∧ decode b_Law_sort 2 = .ok (.iconst 0, 1) ∧ decode b_Law_sort 3 = .ok (.aload_n 0, 1) ∧ decode b_Law_sort 4 = .ok (.iload_n 1, 1) ∧ decode b_Law_sort 5 = .ok (.iload_n 2, 1) ∧ decode b_Law_sort 6 = .ok (.iload_n 3, 1) ∧ decode b_Law_sort 7 = .ok (.invokevirtual 15, 3) ∧ decode b_Law_sort 10 = .ok (.i2l, 1) ∧ decode b_Law_sort 11 = .ok (.lastore, 1) ∧ decode b_Law_sort 12 = .ok (.goto 7, 3) ∧ decode b_Law_sort 15 = .ok (.astore 5, 2) ∧ decode b_Law_sort 17 = .ok (.iconst 1, 1) ∧ decode b_Law_sort 18 = .ok (.ireturn, 1) ∧ decode b_Law_sort 19 = .ok (.iconst 0, 1) ∧ decode b_Law_sort 20 = .ok (.ireturn, 1) := ⟨by decide +kernel, by decide +kernel, by decide +kernel, by decide +kernel, by decide +kernel, by decide +kernel, by decide +kernel, by decide +kernel, by decide +kernel, by decide +kernel, by decide +kernel, by decide +kernel, by decide +kernel, by decide +kernel, by decide +kernel⟩
theorem j_Law_sort : mz_t 12 7 = 19 ∧ (0 ≤ ((12 : Nat) : Int) + 7) := by decide +kernel
theorem sW_Law_sort : Cond.methodLink (nm_Own 13) 84 y_Law_sort ∈ nm_Ts ∧ Cond.static y_Law_sort ∈ nm_Ts ∧ Cond.initialized y_Law_sort.cls ∈ nm_Ts ∧ Cond.codeWith y_Law_sort b_Law_sort 6 (some .int) (nm_Hd b_Law_sort) ∈ nm_Ts ∧ mz_cl1 y_Law_sort 5 := ⟨nm_t2 199 rfl rfl, nm_t2 200 rfl rfl, nm_t1 0 rfl rfl, (show Cond.codeWith y_Law_sort b_Law_sort 6 (some .int) (nm_Hd b_Law_sort) ∈ nm_Ts by rw [show nm_Hd b_Law_sort = [(0, 12, 15, 13)] by decide +kernel]; exact nm_t2 201 rfl rfl), by decide +kernel⟩
def y_Law_merge : MethodName := ⟨"CardOfficeLaw", "merge", "(LCardOffice;IIII[J)I"⟩
abbrev b_Law_merge : ByteArray := method_5_code
def r_Law_merge (c s : Nat) : Room := { frames := 8, cells := c, slots := s, locals := 161 }
theorem d_Law_merge : decode b_Law_merge 0 = .ok (.aload 5, 2) ∧ decode b_Law_merge 2 = .ok (.iconst 0, 1) ∧ decode b_Law_merge 3 = .ok (.aload_n 0, 1) ∧ decode b_Law_merge 4 = .ok (.iload_n 1, 1) ∧ decode b_Law_merge 5 = .ok (.iload_n 2, 1) ∧ decode b_Law_merge 6 = .ok (.iload_n 3, 1) ∧ decode b_Law_merge 7 = .ok (.iload 4, 2) ∧ decode b_Law_merge 9 = .ok (.invokevirtual 19, 3) ∧ decode b_Law_merge 12 = .ok (.i2l, 1) ∧ decode b_Law_merge 13 = .ok (.lastore, 1) ∧ decode b_Law_merge 14 = .ok (.goto 11, 3) ∧ decode b_Law_merge 17 = .ok (.astore 6, 2) ∧ decode b_Law_merge 19 = .ok (.iconst 1, 1) ∧ decode b_Law_merge 20 = .ok (.ireturn, 1) ∧ decode b_Law_merge 21 = .ok (.astore 6, 2) ∧ decode b_Law_merge 23 = .ok (.iconst 2, 1) ∧ decode b_Law_merge 24 = .ok (.ireturn, 1) ∧ decode b_Law_merge 25 = .ok (.iconst 0, 1) ∧ decode b_Law_merge 26 = .ok (.ireturn, 1) := ⟨by decide +kernel, by decide +kernel, by decide +kernel, by decide +kernel, by decide +kernel, by decide +kernel, by decide +kernel, by decide +kernel, by decide +kernel, by decide +kernel, by decide +kernel, by decide +kernel, by decide +kernel, by decide +kernel, by decide +kernel, by decide +kernel, by decide +kernel, by decide +kernel, by decide +kernel⟩
theorem j_Law_merge : mz_t 14 11 = 25 ∧ (0 ≤ ((14 : Nat) : Int) + 11) := by decide +kernel
theorem sW_Law_merge : Cond.methodLink (nm_Own 13) 88 y_Law_merge ∈ nm_Ts ∧ Cond.static y_Law_merge ∈ nm_Ts ∧ Cond.initialized y_Law_merge.cls ∈ nm_Ts ∧ Cond.codeWith y_Law_merge b_Law_merge 7 (some .int) (nm_Hd b_Law_merge) ∈ nm_Ts ∧ mz_cl1 y_Law_merge 6 := ⟨nm_t2 236 rfl rfl, nm_t2 237 rfl rfl, nm_t1 0 rfl rfl, (show Cond.codeWith y_Law_merge b_Law_merge 7 (some .int) (nm_Hd b_Law_merge) ∈ nm_Ts by rw [show nm_Hd b_Law_merge = [(0, 14, 17, 13), (0, 14, 21, 23)] by decide +kernel]; exact nm_t2 238 rfl rfl), by decide +kernel⟩
def y_Law_match : MethodName := ⟨"CardOfficeLaw", "match", "(LCardOffice;IIIII[J)I"⟩
abbrev b_Law_match : ByteArray := method_6_code
def r_Law_match (c s : Nat) : Room := { frames := 8, cells := c, slots := s, locals := 168 }
theorem d_Law_match : decode b_Law_match 0 = .ok (.aload 6, 2) ∧ decode b_Law_match 2 = .ok (.iconst 0, 1) ∧ decode b_Law_match 3 = .ok (.aload_n 0, 1) ∧ decode b_Law_match 4 = .ok (.iload_n 1, 1) ∧ decode b_Law_match 5 = .ok (.iload_n 2, 1) ∧ decode b_Law_match 6 = .ok (.iload_n 3, 1) ∧ decode b_Law_match 7 = .ok (.iload 4, 2) ∧ decode b_Law_match 9 = .ok (.iload 5, 2) ∧ decode b_Law_match 11 = .ok (.invokevirtual 25, 3) ∧ decode b_Law_match 14 = .ok (.i2l, 1) ∧ decode b_Law_match 15 = .ok (.lastore, 1) ∧ decode b_Law_match 16 = .ok (.goto 11, 3) ∧ decode b_Law_match 19 = .ok (.astore 7, 2) ∧ decode b_Law_match 21 = .ok (.iconst 1, 1) ∧ decode b_Law_match 22 = .ok (.ireturn, 1) ∧ decode b_Law_match 23 = .ok (.astore 7, 2) ∧ decode b_Law_match 25 = .ok (.iconst 2, 1) ∧ decode b_Law_match 26 = .ok (.ireturn, 1) ∧ decode b_Law_match 27 = .ok (.iconst 0, 1) ∧ decode b_Law_match 28 = .ok (.ireturn, 1) := ⟨by decide +kernel, by decide +kernel, by decide +kernel, by decide +kernel, by decide +kernel, by decide +kernel, by decide +kernel, by decide +kernel, by decide +kernel, by decide +kernel, by decide +kernel, by decide +kernel, by decide +kernel, by decide +kernel, by decide +kernel, by decide +kernel, by decide +kernel, by decide +kernel, by decide +kernel, by decide +kernel⟩
theorem j_Law_match : mz_t 16 11 = 27 ∧ (0 ≤ ((16 : Nat) : Int) + 11) := by decide +kernel
theorem sW_Law_match : Cond.methodLink (nm_Own 13) 92 y_Law_match ∈ nm_Ts ∧ Cond.static y_Law_match ∈ nm_Ts ∧ Cond.initialized y_Law_match.cls ∈ nm_Ts ∧ Cond.codeWith y_Law_match b_Law_match 8 (some .int) (nm_Hd b_Law_match) ∈ nm_Ts ∧ mz_cl1 y_Law_match 7 := ⟨nm_t3 36 rfl rfl, nm_t3 37 rfl rfl, nm_t1 0 rfl rfl, (show Cond.codeWith y_Law_match b_Law_match 8 (some .int) (nm_Hd b_Law_match) ∈ nm_Ts by rw [show nm_Hd b_Law_match = [(0, 16, 19, 13), (0, 16, 23, 23)] by decide +kernel]; exact nm_t3 38 rfl rfl), by decide +kernel⟩
def y_Law_reproduce : MethodName := ⟨"CardOfficeLaw", "reproduce", "(LCardOffice;III[J)I"⟩
abbrev b_Law_reproduce : ByteArray := method_7_code
def r_Law_reproduce (c s : Nat) : Room := { frames := 8, cells := c, slots := s, locals := 115 }
theorem d_Law_reproduce : decode b_Law_reproduce 0 = .ok (.aload 4, 2) ∧ decode b_Law_reproduce 2 = .ok (.iconst 0, 1) ∧ decode b_Law_reproduce 3 = .ok (.aload_n 0, 1) ∧ decode b_Law_reproduce 4 = .ok (.iload_n 1, 1) ∧ decode b_Law_reproduce 5 = .ok (.iload_n 2, 1) ∧ decode b_Law_reproduce 6 = .ok (.iload_n 3, 1) ∧ decode b_Law_reproduce 7 = .ok (.invokevirtual 29, 3) ∧ decode b_Law_reproduce 10 = .ok (.i2l, 1) ∧ decode b_Law_reproduce 11 = .ok (.lastore, 1) ∧ decode b_Law_reproduce 12 = .ok (.goto 7, 3) ∧ decode b_Law_reproduce 15 = .ok (.astore 5, 2) ∧ decode b_Law_reproduce 17 = .ok (.iconst 1, 1) ∧ decode b_Law_reproduce 18 = .ok (.ireturn, 1) ∧ decode b_Law_reproduce 19 = .ok (.iconst 0, 1) ∧ decode b_Law_reproduce 20 = .ok (.ireturn, 1) := ⟨by decide +kernel, by decide +kernel, by decide +kernel, by decide +kernel, by decide +kernel, by decide +kernel, by decide +kernel, by decide +kernel, by decide +kernel, by decide +kernel, by decide +kernel, by decide +kernel, by decide +kernel, by decide +kernel, by decide +kernel⟩
theorem j_Law_reproduce : mz_t 12 7 = 19 ∧ (0 ≤ ((12 : Nat) : Int) + 7) := by decide +kernel
theorem sW_Law_reproduce : Cond.methodLink (nm_Own 13) 96 y_Law_reproduce ∈ nm_Ts ∧ Cond.static y_Law_reproduce ∈ nm_Ts ∧ Cond.initialized y_Law_reproduce.cls ∈ nm_Ts ∧ Cond.codeWith y_Law_reproduce b_Law_reproduce 6 (some .int) (nm_Hd b_Law_reproduce) ∈ nm_Ts ∧ mz_cl1 y_Law_reproduce 5 := ⟨nm_t3 48 rfl rfl, nm_t3 49 rfl rfl, nm_t1 0 rfl rfl, (show Cond.codeWith y_Law_reproduce b_Law_reproduce 6 (some .int) (nm_Hd b_Law_reproduce) ∈ nm_Ts by rw [show nm_Hd b_Law_reproduce = [(0, 12, 15, 13)] by decide +kernel]; exact nm_t3 50 rfl rfl), by decide +kernel⟩
def y_Law_gang : MethodName := ⟨"CardOfficeLaw", "gang", "(LCardOffice;III[J)I"⟩
abbrev b_Law_gang : ByteArray := method_8_code
def r_Law_gang (c s : Nat) : Room := { frames := 8, cells := c, slots := s, locals := 116 }
theorem d_Law_gang : decode b_Law_gang 0 = .ok (.aload 4, 2) ∧ decode b_Law_gang 2 = .ok (.iconst 0, 1) ∧ decode b_Law_gang 3 = .ok (.aload_n 0, 1) ∧ decode b_Law_gang 4 = .ok (.iload_n 1, 1) ∧ decode b_Law_gang 5 = .ok (.iload_n 2, 1) ∧ decode b_Law_gang 6 = .ok (.iload_n 3, 1) ∧ decode b_Law_gang 7 = .ok (.invokevirtual 32, 3) ∧ decode b_Law_gang 10 = .ok (.i2l, 1) ∧ decode b_Law_gang 11 = .ok (.lastore, 1) ∧ decode b_Law_gang 12 = .ok (.goto 7, 3) ∧ decode b_Law_gang 15 = .ok (.astore 5, 2) ∧ decode b_Law_gang 17 = .ok (.iconst 1, 1) ∧ decode b_Law_gang 18 = .ok (.ireturn, 1) ∧ decode b_Law_gang 19 = .ok (.iconst 0, 1) ∧ decode b_Law_gang 20 = .ok (.ireturn, 1) := ⟨by decide +kernel, by decide +kernel, by decide +kernel, by decide +kernel, by decide +kernel, by decide +kernel, by decide +kernel, by decide +kernel, by decide +kernel, by decide +kernel, by decide +kernel, by decide +kernel, by decide +kernel, by decide +kernel, by decide +kernel⟩
theorem j_Law_gang : mz_t 12 7 = 19 ∧ (0 ≤ ((12 : Nat) : Int) + 7) := by decide +kernel
theorem sW_Law_gang : Cond.methodLink (nm_Own 13) 99 y_Law_gang ∈ nm_Ts ∧ Cond.static y_Law_gang ∈ nm_Ts ∧ Cond.initialized y_Law_gang.cls ∈ nm_Ts ∧ Cond.codeWith y_Law_gang b_Law_gang 6 (some .int) (nm_Hd b_Law_gang) ∈ nm_Ts ∧ mz_cl1 y_Law_gang 5 := ⟨nm_t3 105 rfl rfl, nm_t3 106 rfl rfl, nm_t1 0 rfl rfl, (show Cond.codeWith y_Law_gang b_Law_gang 6 (some .int) (nm_Hd b_Law_gang) ∈ nm_Ts by rw [show nm_Hd b_Law_gang = [(0, 12, 15, 13)] by decide +kernel]; exact nm_t3 107 rfl rfl), by decide +kernel⟩
def y_Law_multiply : MethodName := ⟨"CardOfficeLaw", "multiply", "(LCardOffice;IIII[J)I"⟩
abbrev b_Law_multiply : ByteArray := method_9_code
def r_Law_multiply (c s : Nat) : Room := { frames := 8, cells := c, slots := s, locals := 164 }
theorem d_Law_multiply : decode b_Law_multiply 0 = .ok (.aload 5, 2) ∧ decode b_Law_multiply 2 = .ok (.iconst 0, 1) ∧ decode b_Law_multiply 3 = .ok (.aload_n 0, 1) ∧ decode b_Law_multiply 4 = .ok (.iload_n 1, 1) ∧ decode b_Law_multiply 5 = .ok (.iload_n 2, 1) ∧ decode b_Law_multiply 6 = .ok (.iload_n 3, 1) ∧ decode b_Law_multiply 7 = .ok (.iload 4, 2) ∧ decode b_Law_multiply 9 = .ok (.invokevirtual 35, 3) ∧ decode b_Law_multiply 12 = .ok (.i2l, 1) ∧ decode b_Law_multiply 13 = .ok (.lastore, 1) ∧ decode b_Law_multiply 14 = .ok (.goto 7, 3) ∧ decode b_Law_multiply 17 = .ok (.astore 6, 2) ∧ decode b_Law_multiply 19 = .ok (.iconst 1, 1) ∧ decode b_Law_multiply 20 = .ok (.ireturn, 1) ∧ decode b_Law_multiply 21 = .ok (.iconst 0, 1) ∧ decode b_Law_multiply 22 = .ok (.ireturn, 1) := ⟨by decide +kernel, by decide +kernel, by decide +kernel, by decide +kernel, by decide +kernel, by decide +kernel, by decide +kernel, by decide +kernel, by decide +kernel, by decide +kernel, by decide +kernel, by decide +kernel, by decide +kernel, by decide +kernel, by decide +kernel, by decide +kernel⟩
theorem j_Law_multiply : mz_t 14 7 = 21 ∧ (0 ≤ ((14 : Nat) : Int) + 7) := by decide +kernel
theorem sW_Law_multiply : Cond.methodLink (nm_Own 13) 102 y_Law_multiply ∈ nm_Ts ∧ Cond.static y_Law_multiply ∈ nm_Ts ∧ Cond.initialized y_Law_multiply.cls ∈ nm_Ts ∧ Cond.codeWith y_Law_multiply b_Law_multiply 7 (some .int) (nm_Hd b_Law_multiply) ∈ nm_Ts ∧ mz_cl1 y_Law_multiply 6 := ⟨nm_t3 130 rfl rfl, nm_t3 131 rfl rfl, nm_t1 0 rfl rfl, (show Cond.codeWith y_Law_multiply b_Law_multiply 7 (some .int) (nm_Hd b_Law_multiply) ∈ nm_Ts by rw [show nm_Hd b_Law_multiply = [(0, 14, 17, 13)] by decide +kernel]; exact nm_t3 132 rfl rfl), by decide +kernel⟩
def y_Law_tabulate : MethodName := ⟨"CardOfficeLaw", "tabulate", "(LCardOffice;II[J)I"⟩
abbrev b_Law_tabulate : ByteArray := method_10_code
def r_Law_tabulate (c s : Nat) : Room := { frames := 8, cells := c, slots := s, locals := 187 }
theorem d_Law_tabulate : decode b_Law_tabulate 0 = .ok (.aload_n 3, 1) ∧ decode b_Law_tabulate 1 = .ok (.iconst 0, 1) ∧ decode b_Law_tabulate 2 = .ok (.aload_n 0, 1) ∧ decode b_Law_tabulate 3 = .ok (.iload_n 1, 1) ∧ decode b_Law_tabulate 4 = .ok (.iload_n 2, 1) ∧ decode b_Law_tabulate 5 = .ok (.invokevirtual 38, 3) ∧ decode b_Law_tabulate 8 = .ok (.i2l, 1) ∧ decode b_Law_tabulate 9 = .ok (.lastore, 1) ∧ decode b_Law_tabulate 10 = .ok (.goto 7, 3) ∧ decode b_Law_tabulate 13 = .ok (.astore 4, 2) ∧ decode b_Law_tabulate 15 = .ok (.iconst 1, 1) ∧ decode b_Law_tabulate 16 = .ok (.ireturn, 1) ∧ decode b_Law_tabulate 17 = .ok (.iconst 0, 1) ∧ decode b_Law_tabulate 18 = .ok (.ireturn, 1) := ⟨by decide +kernel, by decide +kernel, by decide +kernel, by decide +kernel, by decide +kernel, by decide +kernel, by decide +kernel, by decide +kernel, by decide +kernel, by decide +kernel, by decide +kernel, by decide +kernel, by decide +kernel, by decide +kernel⟩
theorem j_Law_tabulate : mz_t 10 7 = 17 ∧ (0 ≤ ((10 : Nat) : Int) + 7) := by decide +kernel
theorem sW_Law_tabulate : Cond.methodLink (nm_Own 13) 105 y_Law_tabulate ∈ nm_Ts ∧ Cond.static y_Law_tabulate ∈ nm_Ts ∧ Cond.initialized y_Law_tabulate.cls ∈ nm_Ts ∧ Cond.codeWith y_Law_tabulate b_Law_tabulate 5 (some .int) (nm_Hd b_Law_tabulate) ∈ nm_Ts ∧ mz_cl1 y_Law_tabulate 4 := ⟨nm_t3 186 rfl rfl, nm_t3 187 rfl rfl, nm_t1 0 rfl rfl, (show Cond.codeWith y_Law_tabulate b_Law_tabulate 5 (some .int) (nm_Hd b_Law_tabulate) ∈ nm_Ts by rw [show nm_Hd b_Law_tabulate = [(0, 10, 13, 13)] by decide +kernel]; exact nm_t3 188 rfl rfl), by decide +kernel⟩
def y_Law_sign : MethodName := ⟨"CardOfficeLaw", "sign", "(LCardOffice;III[J)I"⟩
abbrev b_Law_sign : ByteArray := method_11_code
def r_Law_sign (c s : Nat) : Room := { frames := 8, cells := c, slots := s, locals := 114 }
theorem d_Law_sign : decode b_Law_sign 0 = .ok (.aload 4, 2) ∧ decode b_Law_sign 2 = .ok (.iconst 0, 1) ∧ decode b_Law_sign 3 = .ok (.aload_n 0, 1) ∧ decode b_Law_sign 4 = .ok (.iload_n 1, 1) ∧ decode b_Law_sign 5 = .ok (.iload_n 2, 1) ∧ decode b_Law_sign 6 = .ok (.iload_n 3, 1) ∧ decode b_Law_sign 7 = .ok (.invokevirtual 42, 3) ∧ decode b_Law_sign 10 = .ok (.i2l, 1) ∧ decode b_Law_sign 11 = .ok (.lastore, 1) ∧ decode b_Law_sign 12 = .ok (.goto 7, 3) ∧ decode b_Law_sign 15 = .ok (.astore 5, 2) ∧ decode b_Law_sign 17 = .ok (.iconst 1, 1) ∧ decode b_Law_sign 18 = .ok (.ireturn, 1) ∧ decode b_Law_sign 19 = .ok (.iconst 0, 1) ∧ decode b_Law_sign 20 = .ok (.ireturn, 1) := ⟨by decide +kernel, by decide +kernel, by decide +kernel, by decide +kernel, by decide +kernel, by decide +kernel, by decide +kernel, by decide +kernel, by decide +kernel, by decide +kernel, by decide +kernel, by decide +kernel, by decide +kernel, by decide +kernel, by decide +kernel⟩
theorem j_Law_sign : mz_t 12 7 = 19 ∧ (0 ≤ ((12 : Nat) : Int) + 7) := by decide +kernel
theorem sW_Law_sign : Cond.methodLink (nm_Own 13) 113 y_Law_sign ∈ nm_Ts ∧ Cond.static y_Law_sign ∈ nm_Ts ∧ Cond.initialized y_Law_sign.cls ∈ nm_Ts ∧ Cond.codeWith y_Law_sign b_Law_sign 6 (some .int) (nm_Hd b_Law_sign) ∈ nm_Ts ∧ mz_cl1 y_Law_sign 5 := ⟨nm_t4 36 rfl rfl, nm_t4 37 rfl rfl, nm_t1 0 rfl rfl, (show Cond.codeWith y_Law_sign b_Law_sign 6 (some .int) (nm_Hd b_Law_sign) ∈ nm_Ts by rw [show nm_Hd b_Law_sign = [(0, 12, 15, 45)] by decide +kernel]; exact nm_t4 38 rfl rfl), by decide +kernel⟩
def y_Law_printed : MethodName := ⟨"CardOfficeLaw", "printed", "(LCardOffice;II[J)I"⟩
abbrev b_Law_printed : ByteArray := method_12_code
def r_Law_printed (c s : Nat) : Room := { frames := 8, cells := c, slots := s, locals := 113 }
theorem d_Law_printed : decode b_Law_printed 0 = .ok (.aload_n 3, 1) ∧ decode b_Law_printed 1 = .ok (.iconst 0, 1) ∧ decode b_Law_printed 2 = .ok (.aload_n 0, 1) ∧ decode b_Law_printed 3 = .ok (.iload_n 1, 1) ∧ decode b_Law_printed 4 = .ok (.iload_n 2, 1) ∧ decode b_Law_printed 5 = .ok (.invokevirtual 47, 3) ∧ decode b_Law_printed 8 = .ok (.i2l, 1) ∧ decode b_Law_printed 9 = .ok (.lastore, 1) ∧ decode b_Law_printed 10 = .ok (.goto 7, 3) ∧ decode b_Law_printed 13 = .ok (.astore 4, 2) ∧ decode b_Law_printed 15 = .ok (.iconst 1, 1) ∧ decode b_Law_printed 16 = .ok (.ireturn, 1) ∧ decode b_Law_printed 17 = .ok (.iconst 0, 1) ∧ decode b_Law_printed 18 = .ok (.ireturn, 1) := ⟨by decide +kernel, by decide +kernel, by decide +kernel, by decide +kernel, by decide +kernel, by decide +kernel, by decide +kernel, by decide +kernel, by decide +kernel, by decide +kernel, by decide +kernel, by decide +kernel, by decide +kernel, by decide +kernel⟩
theorem j_Law_printed : mz_t 10 7 = 17 ∧ (0 ≤ ((10 : Nat) : Int) + 7) := by decide +kernel
theorem sW_Law_printed : Cond.methodLink (nm_Own 13) 116 y_Law_printed ∈ nm_Ts ∧ Cond.static y_Law_printed ∈ nm_Ts ∧ Cond.initialized y_Law_printed.cls ∈ nm_Ts ∧ Cond.codeWith y_Law_printed b_Law_printed 5 (some .int) (nm_Hd b_Law_printed) ∈ nm_Ts ∧ mz_cl1 y_Law_printed 4 := ⟨nm_t4 61 rfl rfl, nm_t4 62 rfl rfl, nm_t1 0 rfl rfl, (show Cond.codeWith y_Law_printed b_Law_printed 5 (some .int) (nm_Hd b_Law_printed) ∈ nm_Ts by rw [show nm_Hd b_Law_printed = [(0, 10, 13, 45)] by decide +kernel]; exact nm_t4 63 rfl rfl), by decide +kernel⟩
def y_Law_counter : MethodName := ⟨"CardOfficeLaw", "counter", "(LCardOffice;I[J)I"⟩
abbrev b_Law_counter : ByteArray := method_13_code
def r_Law_counter (c s : Nat) : Room := { frames := 8, cells := c, slots := s, locals := 112 }
theorem d_Law_counter : decode b_Law_counter 0 = .ok (.aload_n 2, 1) ∧ decode b_Law_counter 1 = .ok (.iconst 0, 1) ∧ decode b_Law_counter 2 = .ok (.aload_n 0, 1) ∧ decode b_Law_counter 3 = .ok (.iload_n 1, 1) ∧ decode b_Law_counter 4 = .ok (.invokevirtual 50, 3) ∧ decode b_Law_counter 7 = .ok (.i2l, 1) ∧ decode b_Law_counter 8 = .ok (.lastore, 1) ∧ decode b_Law_counter 9 = .ok (.goto 6, 3) ∧ decode b_Law_counter 12 = .ok (.astore_n 3, 1) ∧ decode b_Law_counter 13 = .ok (.iconst 1, 1) ∧ decode b_Law_counter 14 = .ok (.ireturn, 1) ∧ decode b_Law_counter 15 = .ok (.iconst 0, 1) ∧ decode b_Law_counter 16 = .ok (.ireturn, 1) := ⟨by decide +kernel, by decide +kernel, by decide +kernel, by decide +kernel, by decide +kernel, by decide +kernel, by decide +kernel, by decide +kernel, by decide +kernel, by decide +kernel, by decide +kernel, by decide +kernel, by decide +kernel⟩
theorem j_Law_counter : mz_t 9 6 = 15 ∧ (0 ≤ ((9 : Nat) : Int) + 6) := by decide +kernel
theorem sW_Law_counter : Cond.methodLink (nm_Own 13) 119 y_Law_counter ∈ nm_Ts ∧ Cond.static y_Law_counter ∈ nm_Ts ∧ Cond.initialized y_Law_counter.cls ∈ nm_Ts ∧ Cond.codeWith y_Law_counter b_Law_counter 4 (some .int) (nm_Hd b_Law_counter) ∈ nm_Ts ∧ mz_cl1 y_Law_counter 3 := ⟨nm_t4 69 rfl rfl, nm_t4 70 rfl rfl, nm_t1 0 rfl rfl, (show Cond.codeWith y_Law_counter b_Law_counter 4 (some .int) (nm_Hd b_Law_counter) ∈ nm_Ts by rw [show nm_Hd b_Law_counter = [(0, 9, 12, 45)] by decide +kernel]; exact nm_t4 71 rfl rfl), by decide +kernel⟩
theorem g_13_54 : mz_ci 13 54 y_Office_init b_Office_init 2 0 := ⟨Or.inl (nm_t1 25 rfl rfl), i_Office_init⟩
theorem g_13_60 : mz_cv 13 60 y_Office_card b_Office_card 8 (some .boolean) 3 := ⟨Or.inl (nm_t1 230 rfl rfl), v_Office_card⟩
theorem l_13_60 : Cond.methodLink (nm_Own 13) 60 y_Office_card ∈ nm_Ts := nm_t1 230 rfl rfl
theorem g_13_65 : mz_cv 13 65 y_Office_wire b_Office_wire 4 (some .boolean) 3 := ⟨Or.inl (nm_t2 28 rfl rfl), v_Office_wire⟩
theorem l_13_65 : Cond.methodLink (nm_Own 13) 65 y_Office_wire ∈ nm_Ts := nm_t2 28 rfl rfl
theorem g_13_70 : mz_cv 13 70 y_Office_strip b_Office_strip 2 (some .int) 1 := ⟨Or.inl (nm_t2 52 rfl rfl), v_Office_strip⟩
theorem l_13_70 : Cond.methodLink (nm_Own 13) 70 y_Office_strip ∈ nm_Ts := nm_t2 52 rfl rfl
theorem g_13_74 : mz_cv 13 74 y_Office_level b_Office_level 4 (some .boolean) 3 := ⟨Or.inl (nm_t2 60 rfl rfl), v_Office_level⟩
theorem l_13_74 : Cond.methodLink (nm_Own 13) 74 y_Office_level ∈ nm_Ts := nm_t2 60 rfl rfl
theorem g_13_109 : mz_cv 13 109 y_Office_cut b_Office_cut 4 (some .boolean) 3 := ⟨Or.inl (nm_t2 67 rfl rfl), v_Office_cut⟩
theorem l_13_109 : Cond.methodLink (nm_Own 13) 109 y_Office_cut ∈ nm_Ts := nm_t2 67 rfl rfl
theorem g_13_123 : mz_cv 13 123 y_Office_tear b_Office_tear 2 (some .int) 0 := ⟨Or.inl (nm_t2 82 rfl rfl), v_Office_tear⟩
theorem l_13_123 : Cond.methodLink (nm_Own 13) 123 y_Office_tear ∈ nm_Ts := nm_t2 82 rfl rfl
theorem g_13_128 : mz_cv 13 128 y_Office_fault b_Office_fault 2 (some .int) 1 := ⟨Or.inl (nm_t2 86 rfl rfl), v_Office_fault⟩
theorem l_13_128 : Cond.methodLink (nm_Own 13) 128 y_Office_fault ∈ nm_Ts := nm_t2 86 rfl rfl
theorem g_13_132 : mz_cv 13 132 y_Office_count b_Office_count 2 (some .int) 1 := ⟨Or.inl (nm_t2 90 rfl rfl), v_Office_count⟩
theorem l_13_132 : Cond.methodLink (nm_Own 13) 132 y_Office_count ∈ nm_Ts := nm_t2 90 rfl rfl
theorem g_13_7 : mz_cv 13 7 y_Office_pass b_Office_pass 4 (some .int) 3 := ⟨Or.inl (nm_t2 98 rfl rfl), v_Office_pass⟩
theorem l_13_7 : Cond.methodLink (nm_Own 13) 7 y_Office_pass ∈ nm_Ts := nm_t2 98 rfl rfl
theorem g_13_15 : mz_cv 13 15 y_Office_sort b_Office_sort 4 (some .int) 3 := ⟨Or.inl (nm_t2 202 rfl rfl), v_Office_sort⟩
theorem l_13_15 : Cond.methodLink (nm_Own 13) 15 y_Office_sort ∈ nm_Ts := nm_t2 202 rfl rfl
theorem g_13_19 : mz_cv 13 19 y_Office_merge b_Office_merge 5 (some .int) 4 := ⟨Or.inl (nm_t3 0 rfl rfl), v_Office_merge⟩
theorem l_13_19 : Cond.methodLink (nm_Own 13) 19 y_Office_merge ∈ nm_Ts := nm_t3 0 rfl rfl
theorem g_13_25 : mz_cv 13 25 y_Office_match b_Office_match 6 (some .int) 5 := ⟨Or.inl (nm_t3 39 rfl rfl), v_Office_match⟩
theorem l_13_25 : Cond.methodLink (nm_Own 13) 25 y_Office_match ∈ nm_Ts := nm_t3 39 rfl rfl
theorem g_13_29 : mz_cv 13 29 y_Office_reproduce b_Office_reproduce 4 (some .int) 3 := ⟨Or.inl (nm_t3 51 rfl rfl), v_Office_reproduce⟩
theorem l_13_29 : Cond.methodLink (nm_Own 13) 29 y_Office_reproduce ∈ nm_Ts := nm_t3 51 rfl rfl
theorem g_13_32 : mz_cv 13 32 y_Office_gang b_Office_gang 4 (some .int) 3 := ⟨Or.inl (nm_t3 108 rfl rfl), v_Office_gang⟩
theorem l_13_32 : Cond.methodLink (nm_Own 13) 32 y_Office_gang ∈ nm_Ts := nm_t3 108 rfl rfl
theorem g_13_35 : mz_cv 13 35 y_Office_multiply b_Office_multiply 5 (some .int) 4 := ⟨Or.inl (nm_t3 133 rfl rfl), v_Office_multiply⟩
theorem l_13_35 : Cond.methodLink (nm_Own 13) 35 y_Office_multiply ∈ nm_Ts := nm_t3 133 rfl rfl
theorem g_13_38 : mz_cv 13 38 y_Office_tabulate b_Office_tabulate 3 (some .int) 2 := ⟨Or.inl (nm_t3 189 rfl rfl), v_Office_tabulate⟩
theorem l_13_38 : Cond.methodLink (nm_Own 13) 38 y_Office_tabulate ∈ nm_Ts := nm_t3 189 rfl rfl
theorem g_13_42 : mz_cv 13 42 y_Office_sign b_Office_sign 4 (some .int) 3 := ⟨Or.inl (nm_t4 40 rfl rfl), v_Office_sign⟩
theorem l_13_42 : Cond.methodLink (nm_Own 13) 42 y_Office_sign ∈ nm_Ts := nm_t4 40 rfl rfl
theorem g_13_47 : mz_cv 13 47 y_Office_printed b_Office_printed 3 (some .int) 2 := ⟨Or.inl (nm_t4 64 rfl rfl), v_Office_printed⟩
theorem l_13_47 : Cond.methodLink (nm_Own 13) 47 y_Office_printed ∈ nm_Ts := nm_t4 64 rfl rfl
theorem g_13_50 : mz_cv 13 50 y_Office_counter b_Office_counter 2 (some .int) 1 := ⟨Or.inl (nm_t4 72 rfl rfl), v_Office_counter⟩
theorem l_13_50 : Cond.methodLink (nm_Own 13) 50 y_Office_counter ∈ nm_Ts := nm_t4 72 rfl rfl
theorem g_13_57 : mz_ci 13 57 y_Model_init b_Model_init 2 0 := ⟨Or.inl (nm_t4 79 rfl rfl), i_Model_init⟩
theorem g_13_64 : mz_cv 13 64 y_Model_card b_Model_card 9 (some .boolean) 3 := ⟨Or.inl (nm_t4 142 rfl rfl), v_Model_card⟩
theorem l_13_64 : Cond.methodLink (nm_Own 13) 64 y_Model_card ∈ nm_Ts := nm_t4 142 rfl rfl
theorem g_13_69 : mz_cv 13 69 y_Model_wire b_Model_wire 5 (some .boolean) 3 := ⟨Or.inl (nm_t4 161 rfl rfl), v_Model_wire⟩
theorem l_13_69 : Cond.methodLink (nm_Own 13) 69 y_Model_wire ∈ nm_Ts := nm_t4 161 rfl rfl
theorem g_13_73 : mz_cv 13 73 y_Model_strip b_Model_strip 4 (some .int) 1 := ⟨Or.inl (nm_t4 174 rfl rfl), v_Model_strip⟩
theorem l_13_73 : Cond.methodLink (nm_Own 13) 73 y_Model_strip ∈ nm_Ts := nm_t4 174 rfl rfl
theorem g_13_77 : mz_cv 13 77 y_Model_level b_Model_level 4 (some .boolean) 3 := ⟨Or.inl (nm_t4 178 rfl rfl), v_Model_level⟩
theorem l_13_77 : Cond.methodLink (nm_Own 13) 77 y_Model_level ∈ nm_Ts := nm_t4 178 rfl rfl
theorem g_13_83 : mz_cv 13 83 y_Model_pass b_Model_pass 4 (some .int) 3 := ⟨Or.inl (nm_t4 182 rfl rfl), v_Model_pass⟩
theorem l_13_83 : Cond.methodLink (nm_Own 13) 83 y_Model_pass ∈ nm_Ts := nm_t4 182 rfl rfl
theorem g_13_87 : mz_cv 13 87 y_Model_sort b_Model_sort 8 (some .int) 3 := ⟨Or.inl (nm_t4 211 rfl rfl), v_Model_sort⟩
theorem l_13_87 : Cond.methodLink (nm_Own 13) 87 y_Model_sort ∈ nm_Ts := nm_t4 211 rfl rfl
theorem g_13_91 : mz_cv 13 91 y_Model_merge b_Model_merge 8 (some .int) 4 := ⟨Or.inl (nm_t4 233 rfl rfl), v_Model_merge⟩
theorem l_13_91 : Cond.methodLink (nm_Own 13) 91 y_Model_merge ∈ nm_Ts := nm_t4 233 rfl rfl
theorem g_13_95 : mz_cv 13 95 y_Model_match b_Model_match 9 (some .int) 5 := ⟨Or.inl (nm_t4 237 rfl rfl), v_Model_match⟩
theorem l_13_95 : Cond.methodLink (nm_Own 13) 95 y_Model_match ∈ nm_Ts := nm_t4 237 rfl rfl
theorem g_13_98 : mz_cv 13 98 y_Model_reproduce b_Model_reproduce 9 (some .int) 3 := ⟨Or.inl (nm_t5 13 rfl rfl), v_Model_reproduce⟩
theorem l_13_98 : Cond.methodLink (nm_Own 13) 98 y_Model_reproduce ∈ nm_Ts := nm_t5 13 rfl rfl
theorem g_13_101 : mz_cv 13 101 y_Model_gang b_Model_gang 10 (some .int) 3 := ⟨Or.inl (nm_t5 29 rfl rfl), v_Model_gang⟩
theorem l_13_101 : Cond.methodLink (nm_Own 13) 101 y_Model_gang ∈ nm_Ts := nm_t5 29 rfl rfl
theorem g_13_104 : mz_cv 13 104 y_Model_multiply b_Model_multiply 13 (some .int) 4 := ⟨Or.inl (nm_t5 37 rfl rfl), v_Model_multiply⟩
theorem l_13_104 : Cond.methodLink (nm_Own 13) 104 y_Model_multiply ∈ nm_Ts := nm_t5 37 rfl rfl
theorem g_13_108 : mz_cv 13 108 y_Model_tabulate b_Model_tabulate 7 (some .int) 2 := ⟨Or.inl (nm_t5 60 rfl rfl), v_Model_tabulate⟩
theorem l_13_108 : Cond.methodLink (nm_Own 13) 108 y_Model_tabulate ∈ nm_Ts := nm_t5 60 rfl rfl
theorem g_13_112 : mz_cv 13 112 y_Model_cut b_Model_cut 5 (some .boolean) 3 := ⟨Or.inl (nm_t5 113 rfl rfl), v_Model_cut⟩
theorem l_13_112 : Cond.methodLink (nm_Own 13) 112 y_Model_cut ∈ nm_Ts := nm_t5 113 rfl rfl
theorem g_13_115 : mz_cv 13 115 y_Model_sign b_Model_sign 5 (some .int) 3 := ⟨Or.inl (nm_t5 117 rfl rfl), v_Model_sign⟩
theorem l_13_115 : Cond.methodLink (nm_Own 13) 115 y_Model_sign ∈ nm_Ts := nm_t5 117 rfl rfl
theorem g_13_118 : mz_cv 13 118 y_Model_printed b_Model_printed 3 (some .int) 2 := ⟨Or.inl (nm_t5 121 rfl rfl), v_Model_printed⟩
theorem l_13_118 : Cond.methodLink (nm_Own 13) 118 y_Model_printed ∈ nm_Ts := nm_t5 121 rfl rfl
theorem g_13_122 : mz_cv 13 122 y_Model_counter b_Model_counter 2 (some .int) 1 := ⟨Or.inl (nm_t5 125 rfl rfl), v_Model_counter⟩
theorem l_13_122 : Cond.methodLink (nm_Own 13) 122 y_Model_counter ∈ nm_Ts := nm_t5 125 rfl rfl
theorem g_13_127 : mz_cv 13 127 y_Model_tear b_Model_tear 2 (some .int) 0 := ⟨Or.inl (nm_t5 129 rfl rfl), v_Model_tear⟩
theorem l_13_127 : Cond.methodLink (nm_Own 13) 127 y_Model_tear ∈ nm_Ts := nm_t5 129 rfl rfl
theorem g_13_131 : mz_cv 13 131 y_Model_fault b_Model_fault 2 (some .int) 1 := ⟨Or.inl (nm_t5 133 rfl rfl), v_Model_fault⟩
theorem l_13_131 : Cond.methodLink (nm_Own 13) 131 y_Model_fault ∈ nm_Ts := nm_t5 133 rfl rfl
theorem g_13_135 : mz_cv 13 135 y_Model_count b_Model_count 2 (some .int) 1 := ⟨Or.inl (nm_t5 137 rfl rfl), v_Model_count⟩
theorem l_13_135 : Cond.methodLink (nm_Own 13) 135 y_Model_count ∈ nm_Ts := nm_t5 137 rfl rfl
theorem k_13_13 : Cond.classLink (nm_Own 13) 13 "java/lang/IllegalArgumentException" ∈ nm_Ts := nm_t2 97 rfl rfl
theorem k_cs_13 : Cond.castable "java/lang/IllegalArgumentException" "java/lang/IllegalArgumentException" ∈ nm_Ns := nm_n2 104 rfl rfl
theorem k_13_23 : Cond.classLink (nm_Own 13) 23 "java/lang/IllegalStateException" ∈ nm_Ts := nm_t2 239 rfl rfl
theorem k_cs_23 : Cond.castable "java/lang/IllegalStateException" "java/lang/IllegalStateException" ∈ nm_Ns := nm_n3 8 rfl rfl
theorem k_13_45 : Cond.classLink (nm_Own 13) 45 "java/lang/IndexOutOfBoundsException" ∈ nm_Ts := nm_t4 39 rfl rfl
theorem k_cs_45 : Cond.castable "java/lang/IndexOutOfBoundsException" "java/lang/IndexOutOfBoundsException" ∈ nm_Ns := nm_n4 46 rfl rfl
end
section
/-! a handler is found, whichever of those that stand there takes it -/
def mk_hk (cc : ByteArray) (nL pc : Nat) (ec : String) (P : Int32 → Prop) : List (Nat × Nat × Nat × Nat) → Prop
  | [] => False
  | x :: r => (x.1 ≤ pc ∧ pc < x.2.1) ∧ x.2.2.2 ≠ 0 ∧ ∃ C, Cond.classLink (nm_Own 13) x.2.2.2 C ∈ nm_Ts ∧ (((∃ v, mk_ha cc nL x.2.2.1 v ∧ P v) ∧ Cond.castable ec C ∈ nm_Ns) ∨ (Cond.not (Cond.castable ec C) ∈ nm_Ns ∧ mk_hk cc nL pc ec P r))
theorem mk_nc {ec C : String} {s : State} {cl ct : ClassId} (h : va_Nw (.not (.castable ec C)) s) (h1 : s.vm.findClass ec = some cl) (h2 : s.vm.findClass C = some ct) (h3 : s.vm.assignable cl ct = true) : False := by
  unfold va_Nw Cond.before Cond.holds at h
  simp [Cond.value, h1, h2, h3] at h
theorem mk_hk_find {p : Program} {l : Launch} {e : Env} {R : Room} {s : State} {m : MethodId} {args : Array Value} {below : List Frame} {meth : Method} {c : Code} {T : State} {locs : List Loc} {cells slots : Nat} {cc : ByteArray} {nL pc : Nat} {ec : String} {cl : ClassId} {P : Int32 → Prop} (X : Stand p l e R s m args below meth c T locs cells slots) (hown : s.vm.findClass (nm_Own 13) = some m.cls) (hts : ∀ w ∈ nm_Ts, w.before args s = true) (hns : ∀ w ∈ nm_Ns, va_Nw w s) (hfc : s.vm.findClass ec = some cl) :
    ∀ (hs : List (Nat × Nat × Nat × Nat)) (pre tl : List ClassFile.ExceptionTableEntry), c.exceptionTable.toList = pre ++ tl → tl.map (fun h => (h.startPc, h.endPc, h.handlerPc, h.catchType)) = hs → (∀ y ∈ pre, RowPassed e.platform s m.cls pc cl y) → mk_hk cc nL pc ec P hs →
      ∃ x' l1 l3, c.exceptionTable.toList = l1 ++ x' :: l3 ∧ (∀ y ∈ l1, RowPassed e.platform s m.cls pc cl y) ∧ covers x' pc = true ∧ RowCatches e.platform s m.cls cl x' ∧ (∃ k, s.vm.classes[cl]? = some k) ∧ ∃ v, mk_ha cc nL x'.handlerPc v ∧ P v := by
  have hpl : e.platform.magicAccessors = ({} : Platform).magicAccessors := by rw [X.admits.platform]
  intro hs
  induction hs with
  | nil => intro pre tl _ _ _ h; exact h.elim
  | cons x r ih =>
    intro pre tl hsp hm hp h
    obtain ⟨x', l3, hl3, hx', hm3⟩ := List.map_eq_cons_iff.mp hm
    subst hl3
    subst hx'
    obtain ⟨hcov, h0, C, hC, hor⟩ := h
    obtain ⟨ct, hct, hcl⟩ := Cond.classLink_spec hown (hts _ hC) e.platform hpl
    rcases hor with ⟨hv, hor⟩ | ⟨hnc, hor⟩
    · obtain ⟨cc1, ct1, hq1, hq2, hq3⟩ := Cond.castable_spec (va_Nw.use (A := args) rfl (hns _ hor))
      cases hfc.symm.trans hq1
      cases hct.symm.trans hq2
      obtain ⟨hrow, hk⟩ := X.catches_of_link hown (x := x') h0 (hts _ hC) hct hq3
      exact ⟨x', pre, l3, hsp, hp, by simp [covers]; exact hcov, hrow, hk, hv⟩
    · have hfit : ¬ s.vm.assignable cl ct = true := fun q => mk_nc (hns _ hnc) hfc hct q
      · refine ih (pre ++ [x']) l3 (by rw [hsp]; simp) hm3 (fun y hy => ?_) hor
        rcases List.mem_append.mp hy with q | q
        · exact hp y q
        · rcases List.mem_cons.mp q with q | q
          · subst q; exact Or.inr ⟨h0, ct, hcl, by simpa using hfit⟩
          · cases q
section MZT
variable {G : mz_G} {X : mz_E} {cc : ByteArray} {nL : Nat} {rm : Room} {post : Option Value → Nat → mz_H → Prop} {thr : String → Nat → mz_H → Prop} {pc : Nat} {l : mz_L} {k1 k2 n : Nat} {f : mz_H}
variable {y : MethodName} {cc' : ByteArray} {nL' : Nat} {ret' : Option FieldType} {rm' : Room} {post' : Option Value → Nat → mz_H → Prop} {thr' : String → Nat → mz_H → Prop} {rest As : List Value} {idx : Nat}
theorem mz_callT2 {b ci na cn' : Nat} {fs : List Value} {q : vw_C} (hd : decode cc pc = .ok (.invokevirtual idx, 3)) (hlk : Cond.methodLink (nm_Own 13) idx y ∈ nm_Ts) (hw : Cond.instanceMethod y ∈ nm_Ts ∧ Cond.selects y.cls y y ∈ nm_Ts ∧ Cond.initialized y.cls ∈ nm_Ts ∧ Cond.code y cc' nL' ret' ∈ nm_Ts ∧ mz_cl1 y na) (hna : As.length = na) (hyp : plainName y.cls = true) (hcn : y.cls = nm_Own cn') (h13 : cn' ≠ 13) (hlen : (mz_la (.ref b :: As)).length ≤ nL') {l' : mz_L} (hl' : mz_l0 nL' (.ref b :: As) = l')
    (hc : mz_X G X cn' false cc' nL' ret' rm' post' thr' 0 l' [] 0 0 n f) (hb2 : f b = .inr (ci, fs)) (hq : nm_Cl[ci]? = some q) (hqy : q.1 = y.cls) (hrm : mz_rmOk rm rm' nL' k1 k2) (hW : (rest.map fun v => v.category).sum ≤ 8) {st : List Value} (hst : st = As.reverse ++ .ref b :: rest)
    (kk : ∀ v n' f', post' v n' f' → mz_X G X 13 false cc nL (some .int) rm post thr (pc + 3) l (v.toList ++ rest) (k1 + rm'.cells) (k2 + rm'.slots) n' f')
    (kt : ∀ ec n' f', thr' ec n' f' → mk_hk cc nL pc ec (fun v => post (some (.int v)) n' f') (nm_Hd cc)) : mz_X G X 13 false cc nL (some .int) rm post thr pc l st k1 k2 n f := by
  subst hst
  subst hl'
  intro hk1 hk2 hol hos p e s m args below meth c A H locs ls ad ad0 n0 ok rep hl
  obtain ⟨hx, hb, hml, hr, hown, hin, hlocks, hts, hns, hK, hA⟩ := id ok
  obtain ⟨rP, rD, rS, rW, rN, rA, rX⟩ := id rep
  obtain ⟨w1, w2, w3, w4, hd1, hd2, hd3⟩ := hw
  have hosA : mz_okS n (.ref b :: As) := mz_okS_c (hos _ (List.mem_append_right _ List.mem_cons_self)) (fun v hv => hos v (List.mem_append_left _ (List.mem_reverse.mpr hv)))
  have hosR : mz_okS n rest := fun v hv => hos v (List.mem_append_right _ (List.mem_cons_of_mem _ hv))
  have hnd : b < n := by
    rcases hosA _ List.mem_cons_self with z | z
    · exact z
    · exfalso
      rw [rW.2.2 b (Nat.le_trans rW.1 z)] at hb2
      have h2 : ci = 1000 := by injection hb2 with h2; injection h2 with h2; exact h2.symm
      rw [h2] at hq
      exact absurd hq nm_Cl_1000
  have hg0 := mz_w_get (tA := G.2.2) (ad := ad) (f := f) hnd
  rw [hb2] at hg0
  obtain ⟨cellB, hcellB, hobjB, hclsB⟩ := va_recv hK rP hq hg0
  rw [hqy] at hclsB
  have hstk : ((As.reverse ++ Value.ref b :: rest).map (mz_v ad)) = (As.map (mz_v ad)).reverse ++ .ref (ad b) :: rest.map (mz_v ad) := by
    rw [List.map_append, List.map_reverse]; rfl
  rw [hstk]
  have hW2 : ((rest.map (mz_v ad)).map fun v => v.category).sum ≤ 8 := by
    rw [List.map_map, show ((fun v : Value => v.category) ∘ mz_v ad) = (fun v => v.category) from funext (mz_v_cat ad)]; exact hW
  intro T hT S
  subst hT
  obtain ⟨mk, methM, hnamed, hmethM, hstM, habM⟩ := Cond.instanceMethod_spec (hts _ w1)
  obtain ⟨methM', cM, hmethM', hcM, hbyM, hmlM, hretM, hloM, hemM, hsigM⟩ := Cond.code_spec hnamed (hts _ w4)
  cases hmethM.symm.trans hmethM'
  obtain ⟨c2, r2, m2, q1, q2, q3, q4, kP, hkP, hkPi⟩ := Cond.selects_spec (hts _ w2)
  cases hclsB.symm.trans q1
  cases (State.methodFound?_of_named hnamed ⟨hd1, hd2⟩).symm.trans q2
  cases hnamed.symm.trans q3
  have hselP : selectMethod e.platform s.vm cellB.cls mk = .method mk := by rw [Launch.admits_selectMethod S.admits]; exact q4
  have hlenA : (As.map (mz_v ad)).length = methM.sig.parameters.length := by
    rw [List.length_map, hna]
    rw [hsigM] at hd3
    injection hd3 with hd3
    exact hd3.symm
  obtain ⟨g, hg⟩ : ∃ g, g = F0 m pc ls ((As.map (mz_v ad)).reverse ++ .ref (ad b) :: rest.map (mz_v ad)) := ⟨_, rfl⟩
  rw [← hg]
  have hgm : g.method = m := by rw [hg]
  obtain ⟨vm₁, X₁, hstep₁⟩ := S.invokevirtual hx hown (hts _ hlk) hnamed hmethM hstM hkP hkPi ⟨hd1, hd2⟩ (a := ad b) (cell := cellB) hcellB (fun z h => by rw [h] at hobjB; cases hobjB) hselP hmethM habM hkP hkPi (g := g) hgm (argsL := As.map (mz_v ad)) (rest := rest.map (mz_v ad)) hlenA (by rw [hg]) (by rw [hb, hg]; exact hd)
  obtain ⟨g', hg'⟩ : ∃ g', g' = { g with stack := rest.map (mz_v ad) } := ⟨_, rfl⟩
  have hgm' : g'.method = m := by rw [hg']; exact hgm
  have hpc' : g'.pc = pc := by rw [hg', hg]
  have hsz' : g'.locals.size = c.maxLocals := by rw [hg', hg, hml]; exact hl.1
  have hdg' : decode c.code g'.pc = .ok (.invokevirtual idx, 3) := by rw [hb, hpc']; exact hd
  obtain ⟨k9, hk9, hnm9⟩ := className_of_methodNamed hnamed
  have hpk : (T.setVm vm₁).plainMethod mk := X₁.warmed.plainAt (fun k hk => by cases hk9.symm.trans hk; rw [hnm9]; exact hyp)
  obtain ⟨Y, hent⟩ := X₁.into (g := g') hgm' hsz' hdg' (mk := mk) (methk := methM) (ck := cM) (Value.ref (ad b) :: As.map (mz_v ad)).toArray (R' := rm') (by rw [X₁.warmed.alike.method?]; exact hmethM) hcM hloM hpk hrm.1.1 (by
    have e0 : g'.monitorRoom = 0 := by rw [hg', hg]
    have e1 : (g'.stack.map fun v => v.category).sum ≤ 8 := by rw [hg']; exact hW2
    have e2 := hrm.1.2
    rw [hmlM]
    omega) hrm.2.1 hrm.2.2
  have hown' : (T.setVm vm₁).vm.findClass (nm_Own cn') = some mk.cls := by rw [← hcn]; exact findClass_of_methodNamed (X₁.named hnamed)
  have hpcb : mz_pc G X ad T.heap.size (.ref b :: As) n f ((Value.ref b :: As).map (mz_v ad)).toArray ((T.setVm vm₁).calling g' mk ((Value.ref b :: As).map (mz_v ad)).toArray) := mz_pc_blind _ _ g' mk (mz_pc_at (vs := .ref b :: As) hns hK hA (fun _ _ h => h) rep (T.setVm vm₁) rfl X₁.warmed)
  obtain ⟨-, hpsz, hpP, hpK, hpD, hpN, hpX⟩ := hpcb
  have hE : entryFrame mk (Value.ref (ad b) :: As.map (mz_v ad)).toArray cM.maxLocals = F0 mk 0 (lg_sl ((Value.ref b :: As).map (mz_v ad)) ++ List.replicate (nL' - (lg_sl ((Value.ref b :: As).map (mz_v ad))).length) Slot.unset).toArray [] := by
    rw [hmlM]
    exact lg_entry_eq ..
  obtain ⟨t, ht, hzz⟩ := hc (Nat.zero_le _) (Nat.zero_le _) (mz_okL0 hosA) (fun _ hh => by cases hh) p e ((T.setVm vm₁).calling g' mk ((Value.ref b :: As).map (mz_v ad)).toArray) mk ((Value.ref b :: As).map (mz_v ad)).toArray (.java g' :: below) methM cM (va_A (mz_w G.2.2 ad n f) T.heap.size) T.heap [] _ ad ad n
    ⟨hx, hbyM, hmlM, hretM, hown', fun h => (by cases h), ⟨hloM, fun _ => hemM, fun h => absurd h h13⟩, fun w hw => word_at (U := (T.setVm vm₁).calling g' mk ((Value.ref b :: As).map (mz_v ad)).toArray) X₁.warmed (good_of_word (nm_good w hw)) (hts w hw), hpN, hpK, fun q hq => Or.inr hq⟩
    ⟨hpP, hpD.self, va_S.rf, rW, Nat.le_refl _, fun _ _ => rfl, hpX⟩ (mz_lv0 hlen) (((T.setVm vm₁).setTop g').pushFrame (.java (entryFrame mk (Value.ref (ad b) :: As.map (mz_v ad)).toArray cM.maxLocals))) rfl Y
  have ht2 : Steps p.tables e (.java g' :: below) ((((T.setVm vm₁).setTop g').pushFrame (.java (entryFrame mk (Value.ref (ad b) :: As.map (mz_v ad)).toArray cM.maxLocals))).setTop (entryFrame mk (Value.ref (ad b) :: As.map (mz_v ad)).toArray cM.maxLocals)) t := by
    have q := ht
    rw [show F0 mk 0 (lg_sl ((Value.ref b :: As).map (mz_v ad)) ++ List.replicate (nL' - (lg_sl ((Value.ref b :: As).map (mz_v ad))).length) Slot.unset).toArray (List.map (mz_v ad) []) = entryFrame mk (Value.ref (ad b) :: As.map (mz_v ad)).toArray cM.maxLocals from hE.symm] at q
    exact q
  have hFc : ∀ q, va_A (mz_w G.2.2 ad n f) T.heap.size q → A q := by
    intro q hq
    rcases hq with ⟨k, e, hk⟩ | hq
    · exact rD.2 k _ hk
    · exact hA q (Nat.le_trans rS.1 hq)
  rcases hzz with ⟨o, hrun, hend, ⟨v, ad', n', f', hv, hp, hP1, hD1, ⟨hz, hk⟩, hW1, hn1, ha1, hov⟩, L, ⟨-, hWe, hsame⟩, hL⟩ | ⟨xa, ec, cell, ad', n', f', L, hrun, hend, hp, hcell, hobj, hunk, hcls, hP1, hD1, ⟨hz, hk⟩, hW1, hn1, ha1, hWe, hsame, hL⟩
  · subst hv
    obtain ⟨T', X', hW', hB', hteq⟩ := X₁.outOf hgm' hdg' hend hWe hsame
    have e1 : T'.heap = t.heap := by first | (rw [hteq]; done) | (rw [hteq]; rfl)
    have hn2 : n0 ≤ n' := Nat.le_trans rN hn1
    have ha2 : ∀ k, k < n0 ∨ mz_e0 ≤ k → ad' k = ad0 k := fun k hk' => (ha1 k (hk'.imp (fun z => Nat.lt_of_lt_of_le z rN) id)).trans (rA k hk')
    have hokL' : mz_okL n' l := fun w hw => mz_okV_mono hn1 (hol w hw)
    have hokS' : mz_okS n' (v.toList ++ rest) := by
      intro w hw
      rcases List.mem_append.mp hw with q | q
      · cases v with
        | none => cases q
        | some x =>
          rcases List.mem_cons.mp q with q | q
          · rw [q]; exact hov x rfl
          · cases q
      · exact mz_okV_mono hn1 (hosR w q)
    obtain ⟨t2, a1, b1⟩ := kk v n' f' hp hrm.2.1 hrm.2.2 hokL' hokS' p e s m args below meth c A T'.heap (locs ++ L) ls ad' ad0 n0 ok
      ⟨by rw [e1]; exact hP1, hD1.weaken (fun _ q _ hq => hFc _ hq), ⟨Nat.le_trans rS.1 (by rw [e1]; exact hz), fun q h1 h2 => by rw [e1, hk q (Nat.lt_of_lt_of_le h1 rS.1) (fun z => h2 (hFc q z))]; exact rS.2.1 q h1 h2, fun q hq => by
        rcases List.mem_append.mp hq with h | h
        · exact rS.2.2 q h
        · exact hFc _ (hL q h)⟩, hW1, hn2, ha2, mz_xt_ad (fun k hk' => ha1 k (Or.inr hk')) rX⟩ (mz_lv_eq ha1 hol hl) T' rfl X'
    refine ⟨t2, hstep₁ t2 (fun acts => ?_), b1⟩
    rw [← hg', hent acts]
    refine (mk_weaken (mid := [.java g']) ht2).trans ?_
    rw [hteq]
    have eS : (v.toList ++ rest).map (mz_v ad') = (v.map (mz_v ad')).toList ++ rest.map (mz_v ad) := by
      rw [List.map_append, mz_s_eq ha1 hosR]
      cases v <;> rfl
    rw [eS] at a1
    subst hg'
    subst hg
    exact a1
  · obtain ⟨T', X', hW', hB', hteq⟩ := X₁.outOfThrown hgm' hend hWe hsame
    have e1 : T'.heap = t.heap := by first | (rw [hteq]; done) | (rw [hteq]; rfl)
    have hn2 : n0 ≤ n' := Nat.le_trans rN hn1
    have ha2 : ∀ k, k < n0 ∨ mz_e0 ≤ k → ad' k = ad0 k := fun k hk' => (ha1 k (hk'.imp (fun z => Nat.lt_of_lt_of_le z rN) id)).trans (rA k hk')
    have hfc : s.vm.findClass ec = some cell.cls := by
      have z := hcls
      rw [show ((T.setVm vm₁).calling g' mk ((Value.ref b :: As).map (mz_v ad)).toArray).vm.findClass ec = s.vm.findClass ec from X₁.warmed.alike.findClass ec _] at z
      exact z
    have hcell' : T'.heap[xa]? = some cell := by rw [e1]; exact hcell
    obtain ⟨x', l1, l3, hl12, hps, hcv, hrow, hkk, v, ⟨i, pc1, w, hast, hiL, hic, hwv, hir⟩, hpost⟩ := mk_hk_find (args := args) X' hown hts hns hfc (nm_Hd cc) [] c.exceptionTable.toList rfl (hlocks.2.2 rfl) (fun _ h => by cases h) (kt ec n' f' hp)
    obtain ⟨vm', X'', hgo⟩ := X'.caughtThrough xa (g := g') hgm' hcell' hobj hkk l1 x' l3 hl12 (by rw [hpc']; exact hps) (by rw [hpc']; exact hcv) hrow
    have hlocsA : ∀ q ∈ locs ++ L, A q.base := fun q hq => by
      rcases List.mem_append.mp hq with h | h
      · exact rS.2.2 q h
      · exact hFc _ (hL q h)
    have rS' : va_S A s.heap T'.heap (locs ++ L) := ⟨Nat.le_trans rS.1 (by rw [e1]; exact hz), fun q h1 h2 => by rw [e1, hk q (Nat.lt_of_lt_of_le h1 rS.1) (fun z => h2 (hFc q z))]; exact rS.2.1 q h1 h2, hlocsA⟩
    have fin : ∀ ls' : Array Slot, W p G.1 e rm s m args below meth c T'.heap (locs ++ L) (k1 + rm'.cells) (k2 + rm'.slots) (mz_Z G rm below A ad0 n0 post thr args s) (F0 m pc1 ls' []) := fun ls' => lv_iconst hx hb hic hwv (W.widen (k := rm.cells) (n := rm.slots) hrm.2.1 hrm.2.2 <| mz_wor (fun _ q => Or.inl q) <| W.zret hx hb hr rfl (fun t ht hW => ⟨some (.int v), ad', n', f', rfl, hpost, by rw [ht, e1]; exact hP1, hD1.weaken (fun _ q _ hq => hFc _ hq), rS'.F ht, hW1, hn2, ha2, fun y hy => by cases hy; trivial⟩) hlocsA hir hlocks.1)
    have hrun2 : W p G.1 e rm s m args below meth c T'.heap (locs ++ L) (k1 + rm'.cells) (k2 + rm'.slots) (mz_Z G rm below A ad0 n0 post thr args s) (F0 m x'.handlerPc ls [.ref xa]) := by
      rcases hast with ⟨z1, z2⟩ | ⟨k, z1, z2, z3⟩
      · subst z2; exact lv_astore hx hb z1 hl hiL rfl (fun ls' _ => fin ls')
      · subst z3; exact lv_astore_n hx hb z1 z2 hl hiL rfl (fun ls' _ => fin ls')
    obtain ⟨t2, a1, b1⟩ := hrun2 (T'.setVm vm') rfl X''
    refine ⟨t2, hstep₁ t2 (fun acts => ?_), b1⟩
    rw [← hg', hent acts]
    refine (mk_weaken (mid := [.java g']) ht2).trans ?_
    rw [hteq, X'.pushThrowing_eq g' xa]
    refine hgo t2 ?_
    subst hg'
    subst hg
    exact a1
end MZT
end
section
/-! the law's state: class and reference side by side, one value -/
abbrev aL (N : Nat) (g : Nat → Int64) : mz_C := .inl (3, N, .inr (.inl g))
/-- the class has gone on, the reference not yet -/
def LM (f : mz_H) (n K : Nat) (sz : Nat → Nat) (cd s : Nat → Nat → Nat) (K1 : Nat) (sz1 : Nat → Nat) (cd1 s1 : Nat → Nat → Nat) (B : bS) (m : mS) (u : tT) (m1 : mS) (u1 : tT) : Prop := CI f n K1 sz1 cd1 s1 ∧ MJ f K sz cd s ∧ (∃ g, f 171 = aL 1 g) ∧ bOk B ∧ BX f B ∧ MX f B ∧ MC f m1 ∧ TT f u1 ∧ MT f m u
def LSt (f : mz_H) (n K : Nat) (sz : Nat → Nat) (cd s : Nat → Nat → Nat) (B : bS) (m : mS) (u : tT) : Prop := LM f n K sz cd s K sz cd s B m u m u
def LI (f : mz_H) (n : Nat) : Prop := ∃ K sz cd s B m u, LSt f n K sz cd s B m u
theorem CI_eq {f F : mz_H} {n K : Nat} {sz : Nat → Nat} {cd s : Nat → Nat → Nat} (h : CI f n K sz cd s) (he : ∀ q, (q < 158 ∨ 171 < q) → F q = f q) : CI F n K sz cd s := by
  obtain ⟨x, h1, h2, h3, h4, h5, h6, h7⟩ := h
  refine ⟨x, h1, h2, CM_eq h3 (fun q hq => he q (by omega)) (he _ (by omega)), Tb_eq h4 (fun q _ hq => he q (by omega)), fun i hi => ?_, CD_eq h6 (fun q _ hq => he q (by omega)), Cd_eq h7 h2 (fun q hq _ => he q (by omega))⟩
  obtain ⟨w, A, T, L, q1, q2⟩ := h5 i hi
  refine ⟨w, A, T, L, ?_, q2⟩
  unfold Bd
  rw [he _ (by omega), he _ (by omega), he _ (by omega), he _ (by omega)]
  exact q1
theorem MJ_eq {f F : mz_H} {K : Nat} {S : Nat → Nat} {cD sD : Nat → Nat → Nat} (h : MJ f K S cD sD) (he : ∀ q, 158 ≤ q → q ≤ 170 → F q = f q) : MJ F K S cD sD := by
  obtain ⟨ln, W, h1, h2⟩ := h
  exact ⟨ln, W, ⟨Mc_eq h1.1 (he _ (by decide) (by decide)), Md_eq h1.2.1 (he _ (by decide) (by decide)) (he _ (by decide) (by decide)), Mw_eq h1.2.2.1 (he _ (by decide) (by decide)) (he _ (by decide) (by decide)) (he _ (by decide) (by decide)), Mx_eq h1.2.2.2 (fun q hq => he q (by omega) (by omega))⟩, h2⟩
theorem MJ_c {f : mz_H} {K : Nat} {S : Nat → Nat} {cD cE sD : Nat → Nat → Nat} (h : MJ f K S cD sD) (e : ∀ d i, d < 8 → i < S d → cD d i = cE d i) : MJ f K S cE sD := by
  obtain ⟨ln, W, h1, h2⟩ := h
  exact ⟨ln, W, cD_ext h1 e, h2⟩
theorem MJ_s {f : mz_H} {K : Nat} {S : Nat → Nat} {cD sD sE : Nat → Nat → Nat} (h : MJ f K S cD sD) (e : ∀ x j, x < K → j < 16 → sD x j = sE x j) : MJ f K S cD sE := by
  obtain ⟨ln, W, h1, h2⟩ := h
  exact ⟨ln, W, sD_ext h1 e, h2⟩
theorem MC_o {f F : mz_H} {m : mS} (h : MC f m) (he : ∀ q, q < 158 → F q = f q) : MC F m := ⟨(he 4 (by decide)).trans h.1, (he 5 (by decide)).trans h.2.1, (he 8 (by decide)).trans h.2.2⟩
theorem TT_o {f F : mz_H} {u : tT} (h : TT f u) (he : ∀ q, q < 158 → F q = f q) : TT F u := TT_eq h (fun q hq => he q (by omega))
/-- behind a call of the class -/
theorem LM_C {f F : mz_H} {n n' K K1 : Nat} {sz sz1 : Nat → Nat} {cd s cd1 s1 : Nat → Nat → Nat} {B : bS} {m : mS} {u : tT} {φ : mS → mS} (h : LSt f n K sz cd s B m u) (hC : CI F n' K1 sz1 cd1 s1) (hF : FrB f F) (hU : MU f F φ) : LM F n' K sz cd s K1 sz1 cd1 s1 B m u (φ m) u := by
  obtain ⟨h1, h2, ⟨g, e⟩, h4, h5, h6, h7, h8, h9⟩ := h
  exact ⟨hC, MJ_eq h2 (fun q a b => hF q (by omega) (by omega)), ⟨g, (hF 171 (by decide) (by decide)).trans e⟩, h4, BX_eq h5 (fun q a b => hF q (by omega) (by omega)), MX_eq h6 (fun q a b => hF q (by omega) (by omega)), hU m h7, TT_B h8 hF, MT_eq h9 (fun q a b => hF q (by omega) (by omega))⟩
/-- the same, with the tabulator changed -/
theorem LM_Y {f F : mz_H} {n n' K K1 : Nat} {sz sz1 : Nat → Nat} {cd s cd1 s1 : Nat → Nat → Nat} {B : bS} {m : mS} {u u1 : tT} {φ : mS → mS} (h : LSt f n K sz cd s B m u) (hC : CI F n' K1 sz1 cd1 s1) (hF : FrY f F) (hU : MU f F φ) (hX : TT F u1) : LM F n' K sz cd s K1 sz1 cd1 s1 B m u (φ m) u1 := by
  obtain ⟨h1, h2, ⟨g, e⟩, h4, h5, h6, h7, h8, h9⟩ := h
  exact ⟨hC, MJ_eq h2 (fun q a b => hF q (by omega) (by omega)), ⟨g, (hF 171 (by decide) (by decide)).trans e⟩, h4, BX_eq h5 (fun q a b => hF q (by omega) (by omega)), MX_eq h6 (fun q a b => hF q (by omega) (by omega)), hU m h7, hX, MT_eq h9 (fun q a b => hF q (by omega) (by omega))⟩
theorem LM_o {f : mz_H} {n K K1 : Nat} {sz sz1 : Nat → Nat} {cd s cd1 s1 : Nat → Nat → Nat} {B : bS} {m m1 : mS} {u u1 : tT} (h : LM f n K sz cd s K1 sz1 cd1 s1 B m u m1 u1) (g : Nat → Int64) : LM (mz_u f 171 (aL 1 g)) n K sz cd s K1 sz1 cd1 s1 B m u m1 u1 := by
  obtain ⟨h1, h2, h3, h4, h5, h6, h7, h8, h9⟩ := h
  exact ⟨CI_eq h1 (fun q hq => mz_u_n (by omega)), MJ_eq h2 (fun q a b => mz_u_n (by omega)), ⟨g, mz_u_s _ _ _⟩, h4, BX_eq h5 (fun q a b => mz_u_n (by omega)), MX_eq h6 (fun q a b => mz_u_n (by omega)), MC_o h7 (fun q a => mz_u_n (by omega)), TT_o h8 (fun q a => mz_u_n (by omega)), MT_eq h9 (fun q a b => mz_u_n (by omega))⟩
/-- behind a call of the reference -/
theorem LI_T {f F : mz_H} {n K K1 : Nat} {sz sz1 : Nat → Nat} {cd s cd1 s1 : Nat → Nat → Nat} {B : bS} {m : mS} {u : tT} {k : Int32} {φ : mS → mS} (h : LM f n K sz cd s K1 sz1 cd1 s1 B m u (φ m) u) (hM : MJ F K1 sz1 cd1 s1) (hF : FrC f F) (hq : thq f F k φ) : LI F n := by
  obtain ⟨h1, h2, ⟨g, e⟩, h4, h5, h6, h7, h8, h9⟩ := h
  exact ⟨K1, sz1, cd1, s1, B, φ m, u, CI_eq h1 (fun q hq => hF q (by omega)), hM, ⟨g, (hF 171 (by decide)).trans e⟩, h4, BX_eq h5 (fun q a b => hF q (by omega)), MX_eq h6 (fun q a b => hF q (by omega)), MC_o h7 (fun q a => hF q (by omega)), TT_o h8 (fun q a => hF q (by omega)), MT_q h9 hq hF⟩
/-- the same, of the tabulator -/
theorem LI_U {f F : mz_H} {n K K1 : Nat} {sz sz1 : Nat → Nat} {cd s cd1 s1 : Nat → Nat → Nat} {B : bS} {m m1 : mS} {u u1 : tT} (h : LM f n K sz cd s K1 sz1 cd1 s1 B m u m1 u1) (hM : MJ F K1 sz1 cd1 s1) (hF : FrO f F) (hT : MT F m1 u1) : LI F n := by
  obtain ⟨h1, h2, ⟨g, e⟩, h4, h5, h6, h7, h8, h9⟩ := h
  exact ⟨K1, sz1, cd1, s1, B, m1, u1, CI_eq h1 (fun q hq => hF q (by omega)), hM, ⟨g, (hF 171 (by decide)).trans e⟩, h4, BX_eq h5 (fun q a b => hF q (by omega)), MX_eq h6 (fun q a b => hF q (by omega)), MC_o h7 (fun q a => hF q (by omega)), TT_o h8 (fun q a => hF q (by omega)), hT⟩
theorem MT_q2 {f F : mz_H} {m : mS} {u : tT} {k : Int32} {φ : mS → mS} (h : MT f m u) (hq : thq f F k φ) (h1 : F 168 = f 168) (h2 : F 170 = f 170) : MT F (φ m) u := by
  obtain ⟨⟨t, k0, e⟩, ⟨g, e8, h8⟩, ⟨g2, e9, h9⟩, hl⟩ := id h
  have w := MT_q (F := fun q => if q = 158 then F 158 else f q) h (by
    obtain ⟨t0, k0, l, m0, k1, q0, q1⟩ := hq
    exact ⟨t0, k0, l, m0, k1, q0, (if_pos rfl).trans q1⟩) (fun q hq => if_neg (by omega))
  obtain ⟨⟨t', k', e'⟩, -⟩ := w
  exact ⟨⟨t', k', (if_pos rfl).symm.trans e'⟩, ⟨g, h1.trans e8, h8⟩, ⟨g2, h2.trans e9, h9⟩, hl⟩
/-- behind a call of both that changes the boards -/
theorem LI_B {f f1 F : mz_H} {n K : Nat} {sz : Nat → Nat} {cd s : Nat → Nat → Nat} {B B' : bS} {m : mS} {u : tT} (h : LSt f n K sz cd s B m u) (hC : CI f1 n K sz cd s) (hF : FrM f f1) (hX : BX f1 B') (hM : MJ F K sz cd s) (hF2 : FrE f1 F) (hk : bOk B') (hY : MX F B') : LI F n := by
  obtain ⟨h1, h2, ⟨g, e⟩, h4, h5, h6, h7, h8, h9⟩ := h
  have hF3 := hF2.1
  exact ⟨K, sz, cd, s, B', m, u, CI_eq hC (fun q hq => hF3 q (by omega)), hM, ⟨g, (hF3 171 (by decide)).trans ((hF 171 (by decide)).trans e)⟩, hk, BX_eq hX (fun q a b => hF3 q (by omega)), hY, MC_o (MC_M h7 hF) (fun q a => hF3 q (by omega)), TT_o (TT_M h8 hF) (fun q a => hF3 q (by omega)), MT_q2 (φ := no_U) (MT_eq h9 (fun q a b => hF q (by omega))) hF2.2 (hF3 168 (by decide)) (hF3 170 (by decide))⟩
theorem LM_0 {f : mz_H} {n K K1 : Nat} {sz sz1 : Nat → Nat} {cd s cd1 s1 : Nat → Nat → Nat} {B : bS} {m m1 : mS} {u u1 : tT} (h : LM f n K sz cd s K1 sz1 cd1 s1 B m u m1 u1) : f 0 = .inr (0, [.ref 1, .ref 2, .ref 3, .ref 4, .ref 5, .ref 8, .ref 13, .ref 16]) := by
  obtain ⟨x, h1, h2, h3, h4, h5, h6, h7⟩ := h.1
  exact h3.1
theorem LM_158 {f : mz_H} {n K K1 : Nat} {sz sz1 : Nat → Nat} {cd s cd1 s1 : Nat → Nat → Nat} {B : bS} {m m1 : mS} {u u1 : tT} (h : LM f n K sz cd s K1 sz1 cd1 s1 B m u m1 u1) : ∃ fs, f 158 = .inr (11, fs) := by
  obtain ⟨ln, W, t, p, b, u, a, h1, h2, e⟩ := MI_t h.2.1
  exact ⟨_, e⟩
/-- what a wrapper of the law leaves: 0 and the answer, or a number of the throw -/
def WP (f : mz_H) (n : Nat) (P : Option Value → Nat → mz_H → Prop) (T : Nat → Prop) (v : Option Value) (n' : Nat) (f' : mz_H) : Prop := (∃ r f1 g, v = some (.int (nI 0)) ∧ P (some (.int r)) n' f1 ∧ f' = mz_u f1 171 (aL 1 g) ∧ g 0 = r.toInt64) ∨ (∃ k, v = some (.int (nI k)) ∧ T k ∧ n' = n ∧ f' = f)
/-- class and reference agree -/
def AG (v1 v2 : Option Value) (f2 : mz_H) : Prop := ∃ k r g, k < 3 ∧ v1 = some (.int (nI k)) ∧ v2 = some (.int r) ∧ thr f2 (nI k) ∧ f2 171 = aL 1 g ∧ (k = 0 → g 0 = r.toInt64)
theorem AG_0 {f1 f2 : mz_H} {r : Int32} {g : Nat → Int64} (h : f1 171 = aL 1 g) (hg : g 0 = r.toInt64) (hF : FrC f1 f2) (ht : thr f2 (nI 0)) : AG (some (.int (nI 0))) (some (.int r)) f2 := ⟨0, r, g, by decide, rfl, rfl, ht, (hF 171 (by decide)).trans h, fun _ => hg⟩
theorem AG_k {f1 f2 : mz_H} {k : Nat} (hk : 0 < k) (hk3 : k < 3) (h : ∃ g, f1 171 = aL 1 g) (hF : FrC f1 f2) (ht : thr f2 (nI k)) : AG (some (.int (nI k))) (some (.int (nI 0))) f2 := by
  obtain ⟨g, e⟩ := h
  exact ⟨k, nI 0, g, hk3, rfl, rfl, ht, (hF 171 (by decide)).trans e, fun z => by omega⟩
theorem n8 {a b : Nat} (ha : a < 200) (hb : b < 200) (h : nI a = nI b) : a = b := (nI_eq (by omega) (by omega)).mp h
theorem nII {a : Nat} (ha : a < 2 ^ 31) : (nI a).toInt = a := mk_nti ha
theorem ok8 {a : Nat} (h : a < 8) : 0 ≤ (nI a).toInt ∧ (nI a).toInt < 8 := by rw [nII (by omega)]; omega
theorem ok16 {a : Nat} (h : a < 16) : 0 ≤ (nI a).toInt ∧ (nI a).toInt < 16 := by rw [nII (by omega)]; omega
theorem ok4 {a : Nat} (h : a < 4) : 0 ≤ (nI a).toInt ∧ (nI a).toInt < 4 := by rw [nII (by omega)]; omega
theorem okF8 {a b : Nat} (h : a ≤ b) (h2 : b < 16) : 0 ≤ (nI a).toInt ∧ (nI a).toInt ≤ (nI b).toInt ∧ (nI b).toInt < 16 := by rw [nII (by omega), nII (by omega)]; omega
theorem okN8 {a b : Nat} (ha : a < 8) (hb : b < 8) (h : a ≠ b) : (nI a).toInt ≠ (nI b).toInt := by rw [nII (by omega), nII (by omega)]; omega
/-! the calls, one by one -/
section TIE
variable {f f1 f2 : mz_H} {n n1 n2 K : Nat} {sz : Nat → Nat} {cd s : Nat → Nat → Nat} {B : bS} {m0 : mS} {u0 : tT} {v1 v2 : Option Value}
theorem t_pass {x y : Int32} {z : Bool} (h : LSt f n K sz cd s B m0 u0) (hW : WP f n (psP f n K sz cd s x y z) (fun k => k = 1 ∧ ¬ okPs x y) v1 n1 f1) (hM : psM n1 f1 K sz cd s x y z v2 n2 f2) : LI f2 n2 ∧ AG v1 v2 f2 := by
  obtain ⟨rfl, hF2, hM⟩ := hM
  rcases hW with ⟨r, fa, g, rfl, ⟨i, j, c', hi, rfl, hj, rfl, hv, rfl, hC, hF, hU, hc'⟩, rfl, hg⟩ | ⟨k, rfl, ⟨rfl, hno⟩, rfl, rfl⟩
  · cases hv
    have h1 := LM_o (LM_C h hC hF hU) g
    rcases hM with ⟨i', j', c2, hi', ei, hj', ej, rfl, hMJ, hc2, ht⟩ | ⟨hno, -⟩
    · have := n8 (by omega) (by omega) ei
      subst this
      have := n8 (by omega) (by omega) ej
      subst this
      refine ⟨LI_T h1 (MJ_c hMJ (fun d m hd hm => ?_)) hF2 ht, AG_0 (mz_u_s _ _ _) hg hF2 (thq_r ht)⟩
      by_cases e : d = i
      · subst e
        rw [va_up_s, va_up_s]
        obtain ⟨x9, h9, h3, h4, h5, h6, h7, h8⟩ := h.1
        have hq : ∀ q, q < sz d → pk s j z (cd d q) < 11 := fun q hq => by
          obtain ⟨g9, e1, e2, e3⟩ := h7.1 d hi
          exact pok_lt ((h8 _ (e3 q hq).2).2.2 j hj)
        obtain ⟨q, hq1, hq2⟩ := posP_onto hq hm
        rw [← hq2, hc2 q hq1, hc' q hq1]
      · rw [va_up_n e, va_up_n e]
    · exact absurd ⟨ok8 hi, ok16 hj⟩ hno
  · rcases hM with ⟨i', j', c2, hi', rfl, hj', rfl, -⟩ | ⟨_, rfl, hMJ, ht⟩
    · exact absurd ⟨ok8 hi', ok16 hj'⟩ hno
    · exact ⟨LI_T (φ := no_U) h hMJ hF2 ht, AG_k (by decide) (by decide) h.2.2.1 hF2 (thq_r ht)⟩
theorem t_sort {x y z : Int32} (h : LSt f n K sz cd s B m0 u0) (hW : WP f n (soP f n K sz cd s x y z) (fun k => k = 1 ∧ ¬ okSo x y z) v1 n1 f1) (hM : soM n1 f1 K sz cd s x y z v2 n2 f2) : LI f2 n2 ∧ AG v1 v2 f2 := by
  obtain ⟨rfl, hF2, hM⟩ := hM
  rcases hW with ⟨r, fa, g, rfl, ⟨i, j, k, N, c', π, hi, rfl, hjk, hk, rfl, rfl, hN, hv, rfl, hC, hF, hU, hc', hen⟩, rfl, hg⟩ | ⟨k, rfl, ⟨rfl, hno⟩, rfl, rfl⟩
  · cases hv
    have h1 := LM_o (LM_C h hC hF hU) g
    rcases hM with ⟨i', j', k', N', c2, π2, hi', ei, hjk', hk', ej, ek, hN', rfl, hMJ, hc2, hen2, ht⟩ | ⟨hno, -⟩
    · have := n8 (by omega) (by omega) ei
      subst this
      have := n8 (by omega) (by omega) ej
      subst this
      have := n8 (by omega) (by omega) ek
      subst this
      have eN : N' = N := by rw [hN', hN]
      subst eN
      refine ⟨LI_T h1 (MJ_c hMJ (fun d m hd hm => ?_)) hF2 ht, AG_0 (mz_u_s _ _ _) hg hF2 (thq_r ht)⟩
      by_cases e : d = i
      · subst e
        rw [va_up_s, va_up_s, hc2 m hm, hc' m hm, (enP_uniq hen2 (enP_enu hen)).2 m hm]
      · rw [va_up_n e, va_up_n e]
    · exact absurd ⟨ok8 hi, okF8 hjk hk⟩ hno
  · rcases hM with ⟨i', j', k', N', c2, π2, hi', rfl, hjk', hk', rfl, rfl, -⟩ | ⟨_, rfl, hMJ, ht⟩
    · exact absurd ⟨ok8 hi', okF8 hjk' hk'⟩ hno
    · exact ⟨LI_T (φ := no_U) h hMJ hF2 ht, AG_k (by decide) (by decide) h.2.2.1 hF2 (thq_r ht)⟩
theorem CI_sg (h : CI f n K sz cd s) {i : Nat} (hi : i < 8) : ∀ j, j < sz i → ∀ k, k < 16 → sg (s (cd i j) k) := by
  obtain ⟨x9, h9, h3, h4, h5, h6, h7, h8⟩ := h
  intro j hj k hk
  obtain ⟨g9, e1, e2, e3⟩ := h7.1 i hi
  exact (h8 _ (e3 j hj).2).2.2 k hk
theorem t_merge {x y z w : Int32} (h : LSt f n K sz cd s B m0 u0) (hW : WP f n (mgP f n K sz cd s x y z w) (fun k => k = 1 ∧ ¬ okMg x y z w ∨ k = 2 ∧ okMg x y z w ∧ ¬ srM s cd sz x y z w) v1 n1 f1) (hM : mgM n1 f1 K sz cd s x y z w v2 n2 f2) : LI f2 n2 ∧ AG v1 v2 f2 := by
  have okk : ∀ i o j k, i < 8 → o < 8 → i ≠ o → j ≤ k → k < 16 → okMg (nI i) (nI o) (nI j) (nI k) := fun i o j k hi ho hio hjk hk => ⟨⟨ok8 hi, ok8 ho, okN8 hi ho hio⟩, okF8 hjk hk⟩
  rcases hW with ⟨r, fa, g, rfl, ⟨i, o, j, k, hi, rfl, ho, rfl, hio, hjk, hk, rfl, rfl, hr1, hr2, hv, rfl, hC, hF, hU⟩, rfl, hg⟩ | ⟨k, rfl, hT, rfl, rfl⟩
  · cases hv
    have h1 := LM_o (LM_C h hC hF hU) g
    rcases hM with ⟨i', o', j', k', hi', ei, ho', eo, hio', hjk', hk', ej, ek, hM⟩ | ⟨hno, -⟩
    · have := n8 (by omega) (by omega) ei
      subst this
      have := n8 (by omega) (by omega) eo
      subst this
      have := n8 (by omega) (by omega) ej
      subst this
      have := n8 (by omega) (by omega) ek
      subst this
      rcases hM with ⟨-, -, rfl, rfl, ⟨rr, π2, hMJ, hrr, hen2⟩, hF2, ht⟩ | ⟨hno, -⟩
      · refine ⟨LI_T h1 (MJ_c hMJ (fun d m hd hm => ?_)) hF2 ht, AG_0 (mz_u_s _ _ _) hg hF2 (thq_r ht)⟩
        by_cases e : d = o
        · subst e; rw [va_up_s] at hm; omega
        · rw [va_up_n e] at hm
          rw [va_up_n (i := o) e]
          by_cases e2 : d = i
          · subst e2
            rw [va_up_s] at hm
            rw [va_up_s, va_up_s]
            obtain ⟨p1, p2, cr, π, eT, q1, q2, q3, -, -, hcr, hen⟩ := mgT_enP hjk hk (CI_sg h.1 hi) (CI_sg h.1 ho) hr1 hr2 (sz d + sz o) (Nat.le_refl _)
            have e5 : p1 = sz d := by omega
            have e6 : p2 = sz o := by omega
            subst e5
            subst e6
            rw [eT]
            show rr m = cr m
            rw [hrr m hm, hcr m hm, (enP_uniq hen2 (enP_iff hen (fun x => by omega))).2 m hm]
          · rw [va_up_n e2, va_up_n e2]
      · exact absurd ⟨hr1, hr2⟩ hno
    · exact absurd (okk i o j k hi ho hio hjk hk) hno
  · rcases hM with ⟨i', o', j', k', hi', rfl, ho', rfl, hio', hjk', hk', rfl, rfl, hM⟩ | ⟨hno, rfl, rfl, hMJ, hF2, ht⟩
    · have hj16 : j' < 16 := by omega
      rcases hT with ⟨rfl, hno⟩ | ⟨rfl, -, hno⟩
      · exact absurd (okk i' o' j' k' hi' ho' hio' hjk' hk') hno
      · rcases hM with ⟨hr1, hr2, -⟩ | ⟨-, rfl, rfl, hMJ, hF2, ht⟩
        · exact absurd ((srM_n hi' ho' hj16 hk').mpr ⟨hr1, hr2⟩) hno
        · exact ⟨LI_T (φ := no_U) h hMJ hF2 ht, AG_k (by decide) (by decide) h.2.2.1 hF2 (thq_r ht)⟩
    · rcases hT with ⟨rfl, -⟩ | ⟨rfl, hok, -⟩
      · exact ⟨LI_T (φ := no_U) h hMJ hF2 ht, AG_k (by decide) (by decide) h.2.2.1 hF2 (thq_r ht)⟩
      · exact absurd hok hno
theorem t_match {x y u z w : Int32} (h : LSt f n K sz cd s B m0 u0) (hW : WP f n (mtQ f n K sz cd s x y u z w) (fun k => k = 1 ∧ ¬ okMt x y u z w ∨ k = 2 ∧ okMt x y u z w ∧ ¬ srM s cd sz x y z w) v1 n1 f1) (hM : mtM' n1 f1 K sz cd s x y u z w v2 n2 f2) : LI f2 n2 ∧ AG v1 v2 f2 := by
  have okk : ∀ i o e j k, i < 8 → o < 8 → e < 8 → i ≠ o → i ≠ e → o ≠ e → j ≤ k → k < 16 → okMt (nI i) (nI o) (nI e) (nI j) (nI k) := fun i o e j k hi ho he hio hie hoe hjk hk => ⟨⟨ok8 hi, ok8 ho, okN8 hi ho hio⟩, ⟨ok8 hi, ok8 he, okN8 hi he hie⟩, ⟨ok8 ho, ok8 he, okN8 ho he hoe⟩, okF8 hjk hk⟩
  rcases hW with ⟨r, fa, g, rfl, ⟨i, o, e, j, k, c1, c2, R, hi, rfl, ho, rfl, he, rfl, hio, hie, hoe, hjk, hk, rfl, rfl, hr1, hr2, hR, hv, rfl, hC, hF, hU⟩, rfl, hg⟩ | ⟨k, rfl, hT, rfl, rfl⟩
  · cases hv
    have h1 := LM_o (LM_C h hC hF hU) g
    rcases hM with ⟨i', o', e', j', k', hi', ei, ho', eo, he', ee, hio', hie', hoe', hjk', hk', ej, ek, hM⟩ | ⟨hno, -⟩
    · have := n8 (by omega) (by omega) ei
      subst this
      have := n8 (by omega) (by omega) eo
      subst this
      have := n8 (by omega) (by omega) ee
      subst this
      have := n8 (by omega) (by omega) ej
      subst this
      have := n8 (by omega) (by omega) ek
      subst this
      rcases hM with ⟨-, -, N1, N2, N3, ρ1, ρ2, ρ3, π1, π2, π3, rfl, rfl, hF2, ht, hMJ, w1, en1, w2, en2, w3, en3⟩ | ⟨hno, -⟩
      · obtain ⟨σ1, σ2, σ3, M3, a1, a2, b1, b2, d0, d1, d2, d3⟩ := mtF_all (si := sz e) (ci := cd e) (c1 := c1) (c2 := c2) hjk hk (CI_sg h.1 hi) (CI_sg h.1 ho) hr1 hr2
        rw [← hR] at a1 a2 b1 b2 d0 d2 d3
        obtain ⟨u1, u1'⟩ := enP_uniq en1 a1
        obtain ⟨u2, u2'⟩ := enP_uniq en2 b1
        obtain ⟨u3, u3'⟩ := enP_uniq en3 d1
        have e3 : R.2.2.1 - sz e = N3 := by omega
        rw [e3] at hg h1
        have eS : va_up (va_up (va_up sz i N1) o N2) e (sz e + N3) = va_up (va_up (va_up sz i R.1.1) o R.2.1.1) e R.2.2.1 := by rw [u1, u2, d0, u3]
        rw [eS] at hMJ
        refine ⟨LI_T h1 (MJ_c hMJ (fun d m hd hm => ?_)) hF2 ht, AG_0 (mz_u_s _ _ _) hg hF2 (thq_r ht)⟩
        by_cases q1 : d = e
        · subst q1
          rw [va_up_s] at hm
          rw [va_up_s, va_up_s]
          by_cases q2 : m < sz d
          · rw [if_pos q2, d2 m q2]
          · obtain ⟨m', rfl⟩ : ∃ m', m = sz d + m' := ⟨m - sz d, by omega⟩
            have hm' : m' < N3 := by omega
            rw [if_neg q2, show sz d + m' - sz d = m' by omega, w3 m' hm', d3 m' (by omega), u3' m' hm']
        · rw [va_up_n q1] at hm
          rw [va_up_n (i := e) q1, va_up_n (i := e) q1]
          by_cases q2 : d = o
          · subst q2
            rw [va_up_s] at hm
            rw [va_up_s, va_up_s, w2 m (by omega), b2 m hm, u2' m (by omega)]
          · rw [va_up_n q2] at hm
            rw [va_up_n (i := o) q2, va_up_n (i := o) q2]
            by_cases q3 : d = i
            · subst q3
              rw [va_up_s] at hm
              rw [va_up_s, va_up_s, w1 m (by omega), a2 m hm, u1' m (by omega)]
            · rw [va_up_n q3, va_up_n q3]
      · exact absurd ⟨hr1, hr2⟩ hno
    · exact absurd (okk i o e j k hi ho he hio hie hoe hjk hk) hno
  · rcases hM with ⟨i', o', e', j', k', hi', rfl, ho', rfl, he', rfl, hio', hie', hoe', hjk', hk', rfl, rfl, hM⟩ | ⟨hno, rfl, rfl, hMJ, hF2, ht⟩
    · have hj16 : j' < 16 := by omega
      rcases hT with ⟨rfl, hno⟩ | ⟨rfl, -, hno⟩
      · exact absurd (okk i' o' e' j' k' hi' ho' he' hio' hie' hoe' hjk' hk') hno
      · rcases hM with ⟨hr1, hr2, -⟩ | ⟨-, rfl, rfl, hMJ, hF2, ht⟩
        · exact absurd ((srM_n hi' ho' hj16 hk').mpr ⟨hr1, hr2⟩) hno
        · exact ⟨LI_T (φ := no_U) h hMJ hF2 ht, AG_k (by decide) (by decide) h.2.2.1 hF2 (thq_r ht)⟩
    · rcases hT with ⟨rfl, -⟩ | ⟨rfl, hok, -⟩
      · exact ⟨LI_T (φ := no_U) h hMJ hF2 ht, AG_k (by decide) (by decide) h.2.2.1 hF2 (thq_r ht)⟩
      · exact absurd hok hno
theorem t_reproduce {x y z : Int32} (h : LSt f n K sz cd s B m0 u0) (hW : WP f n (rpP f K sz cd s B x y z) (fun k => k = 1 ∧ ¬ okRp x y z) v1 n1 f1) (hM : rpM n1 f1 K sz cd s B x y z v2 n2 f2) : LI f2 n2 ∧ AG v1 v2 f2 := by
  rcases hW with ⟨r, fa, g, rfl, ⟨b, i, j, R, hb, rfl, hi, rfl, hj, rfl, hij, hR, hv, hC, hF, hU⟩, rfl, hg⟩ | ⟨k, rfl, ⟨rfl, hno⟩, rfl, rfl⟩
  · cases hv
    have h1 := LM_o (LM_C h hC hF hU) g
    rcases hM with ⟨b', i', j', hb', eb, hi', ei, hj', ej, hij', hrn, hMJ⟩ | ⟨hno, -⟩
    · have := n8 (by omega) (by omega) eb
      subst this
      have := n8 (by omega) (by omega) ei
      subst this
      have := n8 (by omega) (by omega) ej
      subst this
      rw [← hR] at hrn hMJ
      obtain ⟨rfl, rfl, hF2, ht⟩ := hrn
      exact ⟨LI_T h1 hMJ hF2 ht, AG_0 (mz_u_s _ _ _) hg hF2 (thq_r ht)⟩
    · exact absurd ⟨ok4 hb, ok8 hi, ok8 hj, okN8 hi hj hij⟩ hno
  · rcases hM with ⟨b', i', j', hb', rfl, hi', rfl, hj', rfl, hij', -⟩ | ⟨-, rfl, rfl, hMJ, hF2, ht⟩
    · exact absurd ⟨ok4 hb', ok8 hi', ok8 hj', okN8 hi' hj' hij'⟩ hno
    · exact ⟨LI_T (φ := no_U) h hMJ hF2 ht, AG_k (by decide) (by decide) h.2.2.1 hF2 (thq_r ht)⟩
theorem t_gang {x y z : Int32} (h : LSt f n K sz cd s B m0 u0) (hW : WP f n (gaP f n K sz cd s B x y z) (fun k => k = 1 ∧ ¬ okGa x y z) v1 n1 f1) (hM : gaM n1 f1 K sz cd s B x y z v2 n2 f2) : LI f2 n2 ∧ AG v1 v2 f2 := by
  rcases hW with ⟨r, fa, g, rfl, ⟨b, i, j, R, hb, rfl, hi, rfl, hj, rfl, hR, hv, rfl, hC, hF, hU⟩, rfl, hg⟩ | ⟨k, rfl, ⟨rfl, hno⟩, rfl, rfl⟩
  · cases hv
    have h1 := LM_o (LM_C h hC hF hU) g
    rcases hM with ⟨b', i', j', hb', eb, hi', ei, hj', ej, hrn, hMJ⟩ | ⟨hno, -⟩
    · have := n8 (by omega) (by omega) eb
      subst this
      have := n8 (by omega) (by omega) ei
      subst this
      have := n8 (by omega) (by omega) ej
      subst this
      rw [← hR] at hrn hMJ
      obtain ⟨rfl, rfl, hF2, ht⟩ := hrn
      exact ⟨LI_T h1 hMJ hF2 ht, AG_0 (mz_u_s _ _ _) hg hF2 (thq_r ht)⟩
    · exact absurd ⟨ok4 hb, ok8 hi, ok16 hj⟩ hno
  · rcases hM with ⟨b', i', j', hb', rfl, hi', rfl, hj', rfl, -⟩ | ⟨-, rfl, rfl, hMJ, hF2, ht⟩
    · exact absurd ⟨ok4 hb', ok8 hi', ok16 hj'⟩ hno
    · exact ⟨LI_T (φ := no_U) h hMJ hF2 ht, AG_k (by decide) (by decide) h.2.2.1 hF2 (thq_r ht)⟩
theorem t_multiply {x y z w : Int32} (h : LSt f n K sz cd s B m0 u0) (hW : WP f n (muP f n K sz cd s x y z w) (fun k => k = 1 ∧ ¬ okMu x y z w) v1 n1 f1) (hM : muM n1 f1 K sz cd s x y z w v2 n2 f2) : LI f2 n2 ∧ AG v1 v2 f2 := by
  rcases hW with ⟨r, fa, g, rfl, ⟨i, j, k, l, R, hi, rfl, hj, rfl, hk, rfl, hl, rfl, hok, hR, hv, rfl, hC, hF, hU⟩, rfl, hg⟩ | ⟨k, rfl, ⟨rfl, hno⟩, rfl, rfl⟩
  · cases hv
    have h1 := LM_o (LM_C h hC hF hU) g
    rcases hM with ⟨i', j', k', l', hi', ei, hj', ej, hk', ek, hl', el, -, hrn, hMJ⟩ | ⟨hno, -⟩
    · have := n8 (by omega) (by omega) ei
      subst this
      have := n8 (by have := hj.1; omega) (by have := hj'.1; omega) ej
      subst this
      have := n8 (by have := hk.1; omega) (by have := hk'.1; omega) ek
      subst this
      have := n8 (by have := hl.1; omega) (by have := hl'.1; omega) el
      subst this
      rw [← hR] at hrn hMJ
      obtain ⟨rfl, rfl, hF2, ht⟩ := hrn
      exact ⟨LI_T h1 hMJ hF2 ht, AG_0 (mz_u_s _ _ _) hg hF2 (thq_r ht)⟩
    · exact absurd hok hno
  · rcases hM with ⟨i', j', k', l', hi', rfl, hj', rfl, hk', rfl, hl', rfl, hok, -⟩ | ⟨-, rfl, rfl, hMJ, hF2, ht⟩
    · exact absurd hok hno
    · exact ⟨LI_T (φ := no_U) h hMJ hF2 ht, AG_k (by decide) (by decide) h.2.2.1 hF2 (thq_r ht)⟩
theorem okSg_i {x y z : Int32} (hs : ∀ i, i < 8 → sz i ≤ 200) : okSg sz x y z ↔ okSi sz x y z := by
  constructor
  · rintro ⟨hx, h1, h2, hz⟩
    obtain ⟨i, hi, rfl⟩ := mk_nat (x := x) (N := 8) hx.1 hx.2 (by decide)
    obtain ⟨k, hk, rfl⟩ := mk_nat (x := z) (N := 16) hz.1 hz.2 (by decide)
    have := hs i hi
    rw [nI_clamp (by omega), mk_le, mk_nti (show sz i < 2 ^ 31 by omega)] at h2
    rw [mk_lt] at h1
    have q0 : (0 : Int32).toInt = 0 := rfl
    obtain ⟨j, hj, rfl⟩ := mk_nat (x := y) (N := sz i) (by omega) (by omega) (by omega)
    exact ⟨i, j, k, hi, rfl, hj, rfl, hk, rfl⟩
  · rintro ⟨i, j, k, hi, rfl, hj, rfl, hk, rfl⟩
    have := hs i hi
    refine ⟨ok8 hi, ?_, ?_, ok16 hk⟩
    · show ¬ nI j < nI 0
      rw [nI_ltI (by omega) (by decide)]; omega
    · rw [nI_clamp (by omega), nI_leI (by omega) (by omega)]; omega
theorem t_sign {x y z : Int32} (h : LSt f n K sz cd s B m0 u0) (hW : WP f n (siP f n K sz cd s x y z) (fun k => k = 1 ∧ ¬ okSg sz x y z) v1 n1 f1) (hM : sgM n1 f1 K sz cd s x y z v2 n2 f2) : LI f2 n2 ∧ AG v1 v2 f2 := by
  obtain ⟨rfl, hMJ, hF2, hM⟩ := hM
  rcases hW with ⟨r, fa, g, rfl, ⟨⟨i, j, k, hi, rfl, hj, rfl, hk, rfl, hv⟩, rfl, hC, hF, hU⟩, rfl, hg⟩ | ⟨k, rfl, ⟨rfl, hno⟩, rfl, rfl⟩
  · cases hv
    have h1 := LM_o (LM_C h hC hF hU) g
    have hsz : sz i ≤ 200 := by
      obtain ⟨ln, W, h9, -⟩ := h.2.1
      exact MP_sz h9 hi
    rcases hM with ⟨i', j', k', hi', ei, hj', ej, hk', ek, rfl, ht⟩ | ⟨hno, -⟩
    · have := n8 (by omega) (by omega) ei
      subst this
      have := n8 (by omega) (by omega) ej
      subst this
      have := n8 (by omega) (by omega) ek
      subst this
      exact ⟨LI_T h1 hMJ hF2 ht, AG_0 (mz_u_s _ _ _) hg hF2 (thq_r ht)⟩
    · exact absurd ⟨i, j, k, hi, rfl, hj, rfl, hk, rfl⟩ hno
  · have hs : ∀ i, i < 8 → sz i ≤ 200 := fun i hi => by
      obtain ⟨ln, W, h9, -⟩ := h.2.1
      exact MP_sz h9 hi
    rcases hM with ⟨i', j', k', hi', rfl, hj', rfl, hk', rfl, -⟩ | ⟨-, rfl, ht⟩
    · exact absurd ((okSg_i hs).mpr ⟨i', j', k', hi', rfl, hj', rfl, hk', rfl⟩) hno
    · exact ⟨LI_T (φ := no_U) h hMJ hF2 ht, AG_k (by decide) (by decide) h.2.2.1 hF2 (thq_r ht)⟩
theorem LS_100 (h : LSt f n K sz cd s B m0 u0) : u0.2.1 ≤ 100 := h.2.2.2.2.2.2.2.1.2.2.2.1
theorem okPr_n {i j : Nat} (h : LSt f n K sz cd s B m0 u0) (hi : i < u0.2.1) (hj : j < 24) : okPr u0 (nI i) (nI j) := by
  have := LS_100 h
  refine (okPr_i this).mpr ?_
  rw [nII (by omega), nII (by omega)]
  omega
theorem AG_o {f1 f2 : mz_H} {r : Int32} {g : Nat → Int64} (h : f1 171 = aL 1 g) (hg : g 0 = r.toInt64) (hF : FrO f1 f2) (ht : thr f2 (nI 0)) : AG (some (.int (nI 0))) (some (.int r)) f2 := ⟨0, r, g, by decide, rfl, rfl, ht, (hF 171 (by decide)).trans h, fun _ => hg⟩
theorem t_tabulate {x y : Int32} (h : LSt f n K sz cd s B m0 u0) (hW : WP f n (taP f n K sz cd s B u0 x y) (fun k => k = 1 ∧ ¬ okTa x y) v1 n1 f1) (hM : taM n1 f1 K sz cd s B m0 u0 x y v2 n2 f2) : LI f2 n2 ∧ AG v1 v2 f2 := by
  rcases hW with ⟨r, fa, g, rfl, ⟨b, i, R, hb, rfl, hi, rfl, hR, hv, rfl, hC, hF, hU, hX⟩, rfl, hg⟩ | ⟨k, rfl, ⟨rfl, hno⟩, rfl, rfl⟩
  · cases hv
    have h1 := LM_o (LM_Y h hC hF hU hX) g
    rcases hM with ⟨b', i', hb', eb, hi', ei, hq⟩ | ⟨hno, -⟩
    · have := n8 (by omega) (by omega) eb
      subst this
      have := n8 (by omega) (by omega) ei
      subst this
      rw [← hR] at hq
      obtain ⟨rfl, rfl, hMJ, hF2, ht, hT⟩ := hq
      exact ⟨LI_U h1 hMJ hF2 hT, AG_o (mz_u_s _ _ _) hg hF2 ht⟩
    · exact absurd ⟨ok4 hb, ok8 hi⟩ hno
  · rcases hM with ⟨b', i', hb', rfl, hi', rfl, -⟩ | ⟨-, rfl, rfl, hMJ, hF2, ht⟩
    · exact absurd ⟨ok4 hb', ok8 hi'⟩ hno
    · exact ⟨LI_T (φ := no_U) h hMJ hF2 ht, AG_k (by decide) (by decide) h.2.2.1 hF2 (thq_r ht)⟩
theorem t_printed {x y : Int32} (h : LSt f n K sz cd s B m0 u0) (hW : WP f n (prP f n K sz cd s u0 x y) (fun k => k = 1 ∧ ¬ okPr u0 x y) v1 n1 f1) (hM : prM n1 f1 K sz cd s u0 x y v2 n2 f2) : LI f2 n2 ∧ AG v1 v2 f2 := by
  obtain ⟨rfl, hMJ, hF2, hM⟩ := hM
  have hl := LS_100 h
  rcases hW with ⟨r, fa, g, rfl, ⟨⟨i, j, hi, rfl, hj, rfl, hv⟩, rfl, hC, hF, hU⟩, rfl, hg⟩ | ⟨k, rfl, ⟨rfl, hno⟩, rfl, rfl⟩
  · cases hv
    have h1 := LM_o (LM_C h hC hF hU) g
    rcases hM with ⟨i', j', hi', ei, hj', ej, rfl, ht⟩ | ⟨hno, -⟩
    · have := n8 (by omega) (by omega) ei
      subst this
      have := n8 (by omega) (by omega) ej
      subst this
      exact ⟨LI_T h1 hMJ hF2 ht, AG_0 (mz_u_s _ _ _) hg hF2 (thq_r ht)⟩
    · exact absurd (okPr_n h hi hj) hno
  · rcases hM with ⟨i', j', hi', rfl, hj', rfl, -⟩ | ⟨-, rfl, ht⟩
    · exact absurd (okPr_n h hi' hj') hno
    · exact ⟨LI_T (φ := no_U) h hMJ hF2 ht, AG_k (by decide) (by decide) h.2.2.1 hF2 (thq_r ht)⟩
theorem t_counter {x : Int32} (h : LSt f n K sz cd s B m0 u0) (hW : WP f n (coP f n K sz cd s u0 x) (fun k => k = 1 ∧ ¬ okCo x) v1 n1 f1) (hM : coM n1 f1 K sz cd s u0 x v2 n2 f2) : LI f2 n2 ∧ AG v1 v2 f2 := by
  obtain ⟨rfl, hMJ, hF2, hM⟩ := hM
  rcases hW with ⟨r, fa, g, rfl, ⟨⟨i, hi, rfl, hv⟩, rfl, hC, hF, hU⟩, rfl, hg⟩ | ⟨k, rfl, ⟨rfl, hno⟩, rfl, rfl⟩
  · cases hv
    have h1 := LM_o (LM_C h hC hF hU) g
    rcases hM with ⟨i', hi', ei, rfl, ht⟩ | ⟨hno, -⟩
    · have := n8 (by omega) (by omega) ei
      subst this
      exact ⟨LI_T h1 hMJ hF2 ht, AG_0 (mz_u_s _ _ _) hg hF2 (thq_r ht)⟩
    · exact absurd (ok4 hi) hno
  · rcases hM with ⟨i', hi', rfl, -⟩ | ⟨-, rfl, ht⟩
    · exact absurd (ok4 hi') hno
    · exact ⟨LI_T (φ := no_U) h hMJ hF2 ht, AG_k (by decide) (by decide) h.2.2.1 hF2 (thq_r ht)⟩
theorem t_card {x : Int32} {a b : Int64} (h : LSt f n K sz cd s B m0 u0) (hP : caP f n K sz cd s x a b v1 n1 f1) (hM : caM n1 f1 K sz cd s x a b v2 n2 f2) : LI f2 n2 ∧ v1 = v2 := by
  obtain ⟨rfl, hF2, ht, hM⟩ := hM
  rcases hP with ⟨i, hi, rfl, hK, hall, rfl, hC, hF, hU⟩ | ⟨hno, rfl, rfl, hC, hF, hU⟩
  · rcases hM with ⟨i', hi', ei, -, -, rfl, hMJ⟩ | ⟨hno, -⟩
    · have := n8 (by omega) (by omega) ei
      subst this
      refine ⟨LI_T (LM_C h hC hF hU) (MJ_s hMJ (fun x j hx hj => ?_)) hF2 ht, rfl⟩
      by_cases e : x = K
      · subst e; rw [va_up_s, va_up_s, cpy_lt hj, cpy_lt hj]
      · rw [va_up_n e, va_up_n e]
    · exact absurd ⟨ok8 hi, hK, hall⟩ hno
  · rcases hM with ⟨i', hi', rfl, hK, hall, -⟩ | ⟨-, rfl, hMJ⟩
    · exact absurd ⟨ok8 hi', hK, hall⟩ hno
    · exact ⟨LI_T (LM_C h hC hF hU) hMJ hF2 ht, rfl⟩
theorem t_cut {x y z : Int32} (h : LSt f n K sz cd s B m0 u0) (hP : ctP f n K sz cd s x y z v1 n1 f1) (hM : ctM n1 f1 K sz cd s x y z v2 n2 f2) : LI f2 n2 := by
  obtain ⟨rfl, hF2, ht, hM⟩ := hM
  have hs : ∀ i, i < 8 → sz i ≤ 200 := fun i hi => by
    obtain ⟨ln, W, h9, -⟩ := h.2.1
    exact MP_sz h9 hi
  have q0 : (nI 0).toInt = 0 := rfl
  rcases hP with ⟨i, j, mv, hi, rfl, hj, rfl, hij, hmv, hy, rfl, rfl, hC, hF, hU⟩ | ⟨hno, rfl, rfl, hC, hF, hU⟩
  · have hsi := hs i hi
    have h1 := LM_C h hC hF hU
    rcases hM with ⟨i', j', mv', hi', ei, hj', ej, hij', hmv', rfl, rfl, hMJ⟩ | ⟨hno, rfl, hMJ⟩
    · have := n8 (by omega) (by omega) ei
      subst this
      have := n8 (by omega) (by omega) ej
      subst this
      have : mv' = mv := by
        rw [if_neg (by rw [nI_ltI (by omega) (by decide)]; omega)] at hy
        exact (nI_eq (by omega) (by omega)).mp hy
      subst this
      have eS : va_up (va_up sz j (sz j + mv')) i (sz i - mv') = va_up (va_up sz i (sz i - mv')) j (sz j + mv') := by
        funext d
        unfold va_up
        by_cases e1 : d = i
        · by_cases e2 : d = j
          · omega
          · rw [if_pos e1, if_neg e2, if_pos e1]
        · by_cases e2 : d = j
          · rw [if_neg e1, if_pos e2, if_pos e2]
          · rw [if_neg e1, if_neg e2, if_neg e2, if_neg e1]
      rw [eS] at hMJ
      refine LI_T h1 (MJ_c hMJ (fun d m hd hm => ?_)) hF2 ht
      by_cases e1 : d = i
      · subst e1
        rw [va_up_s, va_up_n hij, va_up_s]
      · rw [va_up_n (i := i) e1]
        by_cases e2 : d = j
        · subst e2; rw [va_up_s, va_up_s]
        · rw [va_up_n e2, va_up_n e2, va_up_n e1]
    · -- a negative number: nothing goes
      have hneg : y < nI 0 := by
        rw [mk_lt, q0]
        rcases Int.lt_or_le y.toInt 0 with q | q
        · exact q
        · exfalso
          refine hno ⟨⟨ok8 hi, ok8 hj, okN8 hi hj hij⟩, q, ?_⟩
          rw [if_neg (by rw [mk_lt, q0]; omega)] at hy
          rw [hy, nI_clamp (by omega), nI_leI (by omega) (by omega)]
          exact hmv
      rw [if_pos hneg] at hy
      have : mv = 0 := ((nI_eq (by decide) (by omega)).mp hy).symm
      subst this
      have eS : va_up (va_up sz i (sz i - 0)) j (sz j + 0) = sz := by
        funext d
        unfold va_up
        by_cases e2 : d = j
        · rw [if_pos e2, e2]; rfl
        · rw [if_neg e2]
          by_cases e1 : d = i
          · rw [if_pos e1, e1]; rfl
          · rw [if_neg e1]
      rw [eS] at h1
      refine LI_T h1 (MJ_c hMJ (fun d m hd hm => ?_)) hF2 ht
      by_cases e2 : d = j
      · subst e2; rw [va_up_s, if_pos hm]
      · rw [va_up_n e2]
        by_cases e1 : d = i
        · subst e1; rw [va_up_s]; rfl
        · rw [va_up_n e1]
  · rcases hM with ⟨i', j', mv', hi', rfl, hj', rfl, hij', hmv', rfl, -⟩ | ⟨-, rfl, hMJ⟩
    · have hsi := hs i' hi'
      exfalso
      refine hno ⟨⟨ok8 hi', ok8 hj', okN8 hi' hj' hij'⟩, ?_⟩
      rw [nI_clamp (by omega), nI_leI (by omega) (by omega)]
      exact hmv'
    · exact LI_T (LM_C h hC hF hU) hMJ hF2 ht
theorem t_tear (h : LSt f n K sz cd s B m0 u0) (hP : teP f n K sz cd s u0 v1 n1 f1) (hM : teM n1 f1 K sz cd s m0 u0 v2 n2 f2) : LI f2 n2 ∧ v1 = v2 := by
  obtain ⟨rfl, rfl, hC, hF, hU, hX⟩ := hP
  obtain ⟨rfl, rfl, hMJ, hF2, hT⟩ := hM
  exact ⟨LI_U (LM_Y h hC hF hU hX) hMJ (FrC_O hF2) hT, rfl⟩
theorem t_fault {x : Int32} (h : LSt f n K sz cd s B m0 u0) (hP : faP f n K sz cd s m0 x v1 n1 f1) (hM : faM n1 f1 K sz cd s m0 x v2 n2 f2) : LI f2 n2 ∧ v1 = v2 := by
  obtain ⟨rfl, rfl, hC, hF, hU⟩ := hP
  obtain ⟨rfl, rfl, hMJ, hF2, ht⟩ := hM
  exact ⟨LI_T (LM_C h hC hF hU) hMJ hF2 ht, rfl⟩
theorem t_count {x : Int32} (h : LSt f n K sz cd s B m0 u0) (hP : cuP f n K sz cd s B m0 u0 x v1 n1 f1) (hM : cuM n1 f1 K sz cd s B m0 u0 x v2 n2 f2) : LI f2 n2 ∧ v1 = v2 := by
  obtain ⟨rfl, rfl, hC, hF, hU⟩ := hP
  obtain ⟨rfl, rfl, hMJ, hF2, ht⟩ := hM
  exact ⟨LI_T (LM_C h hC hF hU) hMJ hF2 ht, rfl⟩
/-! what comes out is an int -/
theorem WP_v {P : Option Value → Nat → mz_H → Prop} {T : Nat → Prop} (h : WP f n P T v1 n1 f1) : ∃ r, v1 = some (.int r) := by
  rcases h with ⟨r, fa, g, rfl, -⟩ | ⟨k, rfl, -⟩ <;> exact ⟨_, rfl⟩
theorem FB_M (h : LSt f n K sz cd s B m0 u0) (hF : FrY f f1) : MJ f1 K sz cd s ∧ (∃ fs, f1 158 = .inr (11, fs)) ∧ MX f1 B ∧ MT f1 m0 u0 := by
  obtain ⟨h1, h2, h3, h4, h5, h6, h7, h8, h9⟩ := id h
  refine ⟨MJ_eq h2 (fun q a b => hF q (by omega) (by omega)), ?_, MX_eq h6 (fun q a b => hF q (by omega) (by omega)), MT_eq h9 (fun q a b => hF q (by omega) (by omega))⟩
  rw [hF 158 (by decide) (by decide)]
  exact LM_158 h
theorem WP_M {P : Option Value → Nat → mz_H → Prop} {T : Nat → Prop} (h : LSt f n K sz cd s B m0 u0) (hP : ∀ v n' f', P v n' f' → FrY f f') (hW : WP f n P T v1 n1 f1) : MJ f1 K sz cd s ∧ (∃ fs, f1 158 = .inr (11, fs)) ∧ MX f1 B ∧ MT f1 m0 u0 := by
  rcases hW with ⟨r, fa, g, rfl, hp, rfl, -⟩ | ⟨k, rfl, -, -, rfl⟩
  · have hF := hP _ _ _ hp
    obtain ⟨q1, ⟨fs, q2⟩, q3, q4⟩ := FB_M h hF
    exact ⟨MJ_eq q1 (fun q a b => mz_u_n (by omega)), ⟨fs, (mz_u_n (by decide)).trans q2⟩, MX_eq q3 (fun q a b => mz_u_n (by omega)), MT_eq q4 (fun q a b => mz_u_n (by omega))⟩
  · exact FB_M h (fun _ _ _ => rfl)
theorem u_pass {x y : Int32} {z : Bool} (h : psM n1 f1 K sz cd s x y z v2 n2 f2) : ∃ r, v2 = some (.int r) := by
  obtain ⟨-, -, ⟨i, j, c, -, -, -, -, rfl, -⟩ | ⟨-, rfl, -⟩⟩ := h <;> exact ⟨_, rfl⟩
theorem u_sort {x y z : Int32} (h : soM n1 f1 K sz cd s x y z v2 n2 f2) : ∃ r, v2 = some (.int r) := by
  obtain ⟨-, -, ⟨i, j, k, N, r, π, -, -, -, -, -, -, -, rfl, -⟩ | ⟨-, rfl, -⟩⟩ := h <;> exact ⟨_, rfl⟩
theorem u_merge {x y z w : Int32} (h : mgM n1 f1 K sz cd s x y z w v2 n2 f2) : ∃ r, v2 = some (.int r) := by
  rcases h with ⟨i, o, j, k, -, -, -, -, -, -, -, -, -, ⟨-, -, rfl, -⟩ | ⟨-, rfl, -⟩⟩ | ⟨-, rfl, -⟩ <;> exact ⟨_, rfl⟩
theorem u_match {x y u z w : Int32} (h : mtM' n1 f1 K sz cd s x y u z w v2 n2 f2) : ∃ r, v2 = some (.int r) := by
  rcases h with ⟨i, o, e, j, k, -, -, -, -, -, -, -, -, -, -, -, -, -, ⟨-, -, N1, N2, N3, r1, r2, r3, p1, p2, p3, rfl, -⟩ | ⟨-, rfl, -⟩⟩ | ⟨-, rfl, -⟩ <;> exact ⟨_, rfl⟩
theorem u_reproduce {x y z : Int32} (h : rpM n1 f1 K sz cd s B x y z v2 n2 f2) : ∃ r, v2 = some (.int r) := by
  rcases h with ⟨b, i, j, -, -, -, -, -, -, -, ⟨rfl, -⟩, -⟩ | ⟨-, rfl, -⟩ <;> exact ⟨_, rfl⟩
theorem u_gang {x y z : Int32} (h : gaM n1 f1 K sz cd s B x y z v2 n2 f2) : ∃ r, v2 = some (.int r) := by
  rcases h with ⟨b, i, j, -, -, -, -, -, -, ⟨rfl, -⟩, -⟩ | ⟨-, rfl, -⟩ <;> exact ⟨_, rfl⟩
theorem u_multiply {x y z w : Int32} (h : muM n1 f1 K sz cd s x y z w v2 n2 f2) : ∃ r, v2 = some (.int r) := by
  rcases h with ⟨i, j, k, l, -, -, -, -, -, -, -, -, -, ⟨rfl, -⟩, -⟩ | ⟨-, rfl, -⟩ <;> exact ⟨_, rfl⟩
theorem u_sign {x y z : Int32} (h : sgM n1 f1 K sz cd s x y z v2 n2 f2) : ∃ r, v2 = some (.int r) := by
  obtain ⟨-, -, -, ⟨i, j, k, -, -, -, -, -, -, rfl, -⟩ | ⟨-, rfl, -⟩⟩ := h <;> exact ⟨_, rfl⟩
theorem u_card {x : Int32} {a b : Int64} (h : caM n1 f1 K sz cd s x a b v2 n2 f2) : ∃ r, v2 = some (.int r) := by
  obtain ⟨-, -, -, ⟨i, -, -, -, -, rfl, -⟩ | ⟨-, rfl, -⟩⟩ := h <;> exact ⟨_, rfl⟩
theorem u_cut {x y z : Int32} (h : ctM n1 f1 K sz cd s x y z v2 n2 f2) : ∃ r, v2 = some (.int r) := by
  obtain ⟨-, -, -, ⟨i, j, mv, -, -, -, -, -, -, -, rfl, -⟩ | ⟨-, rfl, -⟩⟩ := h <;> exact ⟨_, rfl⟩
theorem u_tabulate {x y : Int32} (h : taM n1 f1 K sz cd s B m0 u0 x y v2 n2 f2) : ∃ r, v2 = some (.int r) := by
  rcases h with ⟨b, i, -, -, -, -, rfl, -⟩ | ⟨-, rfl, -⟩ <;> exact ⟨_, rfl⟩
theorem u_printed {x y : Int32} (h : prM n1 f1 K sz cd s u0 x y v2 n2 f2) : ∃ r, v2 = some (.int r) := by
  obtain ⟨-, -, -, ⟨i, j, -, -, -, -, rfl, -⟩ | ⟨-, rfl, -⟩⟩ := h <;> exact ⟨_, rfl⟩
theorem u_counter {x : Int32} (h : coM n1 f1 K sz cd s u0 x v2 n2 f2) : ∃ r, v2 = some (.int r) := by
  obtain ⟨-, -, -, ⟨i, -, -, rfl, -⟩ | ⟨-, rfl, -⟩⟩ := h <;> exact ⟨_, rfl⟩
theorem p_card {x : Int32} {a b : Int64} (h : caP f n K sz cd s x a b v1 n1 f1) : (∃ r, v1 = some (.int r)) ∧ FrB f f1 := by
  rcases h with ⟨i, -, -, -, -, rfl, -, hF, -⟩ | ⟨-, rfl, -, -, hF, -⟩ <;> exact ⟨⟨_, rfl⟩, hF⟩
theorem p_cut {x y z : Int32} (h : ctP f n K sz cd s x y z v1 n1 f1) : (∃ r, v1 = some (.int r)) ∧ FrB f f1 := by
  rcases h with ⟨i, j, mv, -, -, -, -, -, -, -, rfl, -, -, hF, -⟩ | ⟨-, rfl, -, -, hF, -⟩ <;> exact ⟨⟨_, rfl⟩, hF⟩
end TIE
end
section
/-! the law's wrappers -/
set_option maxRecDepth 20000 in
theorem cW_Law_pass (G : mz_G) (hfl : G.1.flags = pinnedFlags ++ [noTraceFlag]) (n : Nat) (f : mz_H) {x y : Int32} (z : Bool) {K : Nat} {sz : Nat → Nat} {cd s : Nat → Nat → Nat} {B : bS} {m0 : mS} {u0 : tT} (h : LSt f n K sz cd s B m0 u0) : mz_CtW G mk_P y_Law_pass b_Law_pass 6 (some .int) (r_Law_pass 1 6) [.ref 0, .int x, .int y, .int (mk_b (z = true)), .ref 171] n f (WP f n (psP f n K sz cd s x y z) (fun k => k = 1 ∧ ¬ okPs x y)) := by
  have ho := LM_0 h
  obtain ⟨g, e171⟩ := h.2.2.1
  refine mz_CtW_of [some (.ref 0), some (.int x), some (.int y), some (.int (mk_b (z = true))), some (.ref 171), none] (by decide) rfl (Nat.le_of_ble_eq_true rfl) rfl ?_
  refine mz_go [7] 20 ?_
  simp only [mz_run, ev_0, ev_1, ev_2, ev_3, ev_4, ev_5, ev_6, ev_7, ev_8, ev_9, ev_10, ev_11, ev_12, ev_13, ev_14, ev_15, ev_16, ev_17, ev_18, ev_19, ev_20, ev_21, ev_22, ev_23, ev_24, ev_25, ev_26, ev_27, ev_28, ev_29, ev_30, ev_31, ev_32, ev_33, ev_34, ev_35, ev_36, ev_37, ev_38, ev_39, ev_40, ev_41, ev_42, ev_43, ev_44, ev_45, ev_46, ev_47, ev_48, ev_49, ev_50, ev_51, ev_52, ev_53, ev_54, ev_55, ev_56, ev_57, ev_58, ev_59, ev_60, ev_61, ev_62, ev_63, ev_64, ev_65, ev_66, ev_67, ev_68, ev_69, ev_70, ev_71, ev_72, ev_73, ev_74, ev_75, ev_76, ev_77, ev_78, ev_79, ev_80, ev_81, ev_82, ev_83, mk_lit, mk_fin, mk_cat, mk_fit, mk_nar, mk_fld, mk_cls, mk_ty, mk_isr, List.mem_cons, List.not_mem_nil, or_false, or_true, false_or, true_or, Nat.reduceEqDiff, Nat.reduceAdd, Nat.reduceSub, Nat.reduceLT, Nat.reduceLeDiff, reduceIte, if_true, if_false, List.getElem?_cons_zero, List.getElem?_cons_succ, List.set_cons_zero, List.set_cons_succ, List.length_cons, List.length_nil, mz_s1, mz_s2, mz_cl, true_and, and_true, false_and, and_false, List.append_nil, mk_b0, mk_b1, mk_b2, mk_bn, Value.int.injEq, Option.toList_some, Option.toList_none, List.cons_append, List.nil_append, Classical.not_not, Option.some.injEq, reduceCtorEq, ne_eq, not_true_eq_false, not_false_eq_true, false_implies, true_implies, d_Law_pass, j_Law_pass]
  refine mz_callT2 (cn' := 0) (As := [.int x, .int y, .int (mk_b (z = true))]) (l' := [some (.ref 0), some (.int x), some (.int y), some (.int (mk_b (z = true)))]) (by simp only [d_Law_pass, Nat.reduceAdd]) l_13_7 v_Office_pass rfl (by decide) rfl (by decide) (Nat.le_of_ble_eq_true rfl) rfl (x_Office_pass G hfl n f z h.1) ho rfl rfl (by decide) (Nat.le_of_ble_eq_true rfl) rfl ?_ ?_
  · intro v n1 f1 hP
    obtain ⟨_, _, _, -, -, -, -, rfl, -, -, hF, -⟩ := id hP
    have e1 : f1 171 = aL 1 g := (hF 171 (by decide) (by decide)).trans e171
    refine mz_go [] 20 ?_
    simp only [mz_run, ev_0, ev_1, ev_2, ev_3, ev_4, ev_5, ev_6, ev_7, ev_8, ev_9, ev_10, ev_11, ev_12, ev_13, ev_14, ev_15, ev_16, ev_17, ev_18, ev_19, ev_20, ev_21, ev_22, ev_23, ev_24, ev_25, ev_26, ev_27, ev_28, ev_29, ev_30, ev_31, ev_32, ev_33, ev_34, ev_35, ev_36, ev_37, ev_38, ev_39, ev_40, ev_41, ev_42, ev_43, ev_44, ev_45, ev_46, ev_47, ev_48, ev_49, ev_50, ev_51, ev_52, ev_53, ev_54, ev_55, ev_56, ev_57, ev_58, ev_59, ev_60, ev_61, ev_62, ev_63, ev_64, ev_65, ev_66, ev_67, ev_68, ev_69, ev_70, ev_71, ev_72, ev_73, ev_74, ev_75, ev_76, ev_77, ev_78, ev_79, ev_80, ev_81, ev_82, ev_83, mk_lit, mk_fin, mk_cat, mk_fit, mk_nar, mk_fld, mk_cls, mk_ty, mk_isr, List.mem_cons, List.not_mem_nil, or_false, or_true, false_or, true_or, Nat.reduceEqDiff, Nat.reduceAdd, Nat.reduceSub, Nat.reduceLT, Nat.reduceLeDiff, reduceIte, if_true, if_false, List.getElem?_cons_zero, List.getElem?_cons_succ, List.set_cons_zero, List.set_cons_succ, List.length_cons, List.length_nil, mz_s1, mz_s2, mz_cl, true_and, and_true, false_and, and_false, List.append_nil, mk_b0, mk_b1, mk_b2, mk_bn, Value.int.injEq, Option.toList_some, Option.toList_none, List.cons_append, List.nil_append, Classical.not_not, Option.some.injEq, reduceCtorEq, ne_eq, not_true_eq_false, not_false_eq_true, false_implies, true_implies, d_Law_pass, j_Law_pass, e1, vp_in_nI (show 0 < 1 by decide) (show 1 < 2 ^ 31 by decide), nI_clamp (show 0 < 2 ^ 31 by decide)]
    exact Or.inl ⟨_, f1, _, rfl, hP, rfl, by first | rfl | simp [va_up, upd]⟩
  · rintro ec n1 f1 ⟨rfl, rfl, rfl, hno⟩
    rw [show nm_Hd b_Law_pass = [(0, 12, 15, 13)] by decide +kernel]
    exact ⟨⟨by decide, by decide⟩, by decide, _, k_13_13, Or.inl ⟨⟨nI 1, ⟨5, 17, 1, Or.inl ⟨by simp only [d_Law_pass], rfl⟩, by decide, by simp only [d_Law_pass], by decide, by simp only [d_Law_pass, Nat.reduceAdd]⟩, Or.inr ⟨1, rfl, ⟨rfl, hno⟩, rfl, rfl⟩⟩, k_cs_13⟩⟩
set_option maxRecDepth 20000 in
theorem cW_Law_sort (G : mz_G) (hfl : G.1.flags = pinnedFlags ++ [noTraceFlag]) (n : Nat) (f : mz_H) {x y z : Int32} {K : Nat} {sz : Nat → Nat} {cd s : Nat → Nat → Nat} {B : bS} {m0 : mS} {u0 : tT} (h : LSt f n K sz cd s B m0 u0) : mz_CtW G mk_P y_Law_sort b_Law_sort 6 (some .int) (r_Law_sort 1 6) [.ref 0, .int x, .int y, .int z, .ref 171] n f (WP f n (soP f n K sz cd s x y z) (fun k => k = 1 ∧ ¬ okSo x y z)) := by
  have ho := LM_0 h
  obtain ⟨g, e171⟩ := h.2.2.1
  refine mz_CtW_of [some (.ref 0), some (.int x), some (.int y), some (.int z), some (.ref 171), none] (by decide) rfl (Nat.le_of_ble_eq_true rfl) rfl ?_
  refine mz_go [7] 20 ?_
  simp only [mz_run, ev_0, ev_1, ev_2, ev_3, ev_4, ev_5, ev_6, ev_7, ev_8, ev_9, ev_10, ev_11, ev_12, ev_13, ev_14, ev_15, ev_16, ev_17, ev_18, ev_19, ev_20, ev_21, ev_22, ev_23, ev_24, ev_25, ev_26, ev_27, ev_28, ev_29, ev_30, ev_31, ev_32, ev_33, ev_34, ev_35, ev_36, ev_37, ev_38, ev_39, ev_40, ev_41, ev_42, ev_43, ev_44, ev_45, ev_46, ev_47, ev_48, ev_49, ev_50, ev_51, ev_52, ev_53, ev_54, ev_55, ev_56, ev_57, ev_58, ev_59, ev_60, ev_61, ev_62, ev_63, ev_64, ev_65, ev_66, ev_67, ev_68, ev_69, ev_70, ev_71, ev_72, ev_73, ev_74, ev_75, ev_76, ev_77, ev_78, ev_79, ev_80, ev_81, ev_82, ev_83, mk_lit, mk_fin, mk_cat, mk_fit, mk_nar, mk_fld, mk_cls, mk_ty, mk_isr, List.mem_cons, List.not_mem_nil, or_false, or_true, false_or, true_or, Nat.reduceEqDiff, Nat.reduceAdd, Nat.reduceSub, Nat.reduceLT, Nat.reduceLeDiff, reduceIte, if_true, if_false, List.getElem?_cons_zero, List.getElem?_cons_succ, List.set_cons_zero, List.set_cons_succ, List.length_cons, List.length_nil, mz_s1, mz_s2, mz_cl, true_and, and_true, false_and, and_false, List.append_nil, mk_b0, mk_b1, mk_b2, mk_bn, Value.int.injEq, Option.toList_some, Option.toList_none, List.cons_append, List.nil_append, Classical.not_not, Option.some.injEq, reduceCtorEq, ne_eq, not_true_eq_false, not_false_eq_true, false_implies, true_implies, d_Law_sort, j_Law_sort]
  refine mz_callT2 (cn' := 0) (As := [.int x, .int y, .int z]) (l' := [some (.ref 0), some (.int x), some (.int y), some (.int z)]) (by simp only [d_Law_sort, Nat.reduceAdd]) l_13_15 v_Office_sort rfl (by decide) rfl (by decide) (Nat.le_of_ble_eq_true rfl) rfl (x_Office_sort G hfl n f h.1) ho rfl rfl (by decide) (Nat.le_of_ble_eq_true rfl) rfl ?_ ?_
  · intro v n1 f1 hP
    obtain ⟨_, _, _, _, _, _, -, -, -, -, -, -, -, rfl, -, -, hF, -⟩ := id hP
    have e1 : f1 171 = aL 1 g := (hF 171 (by decide) (by decide)).trans e171
    refine mz_go [] 20 ?_
    simp only [mz_run, ev_0, ev_1, ev_2, ev_3, ev_4, ev_5, ev_6, ev_7, ev_8, ev_9, ev_10, ev_11, ev_12, ev_13, ev_14, ev_15, ev_16, ev_17, ev_18, ev_19, ev_20, ev_21, ev_22, ev_23, ev_24, ev_25, ev_26, ev_27, ev_28, ev_29, ev_30, ev_31, ev_32, ev_33, ev_34, ev_35, ev_36, ev_37, ev_38, ev_39, ev_40, ev_41, ev_42, ev_43, ev_44, ev_45, ev_46, ev_47, ev_48, ev_49, ev_50, ev_51, ev_52, ev_53, ev_54, ev_55, ev_56, ev_57, ev_58, ev_59, ev_60, ev_61, ev_62, ev_63, ev_64, ev_65, ev_66, ev_67, ev_68, ev_69, ev_70, ev_71, ev_72, ev_73, ev_74, ev_75, ev_76, ev_77, ev_78, ev_79, ev_80, ev_81, ev_82, ev_83, mk_lit, mk_fin, mk_cat, mk_fit, mk_nar, mk_fld, mk_cls, mk_ty, mk_isr, List.mem_cons, List.not_mem_nil, or_false, or_true, false_or, true_or, Nat.reduceEqDiff, Nat.reduceAdd, Nat.reduceSub, Nat.reduceLT, Nat.reduceLeDiff, reduceIte, if_true, if_false, List.getElem?_cons_zero, List.getElem?_cons_succ, List.set_cons_zero, List.set_cons_succ, List.length_cons, List.length_nil, mz_s1, mz_s2, mz_cl, true_and, and_true, false_and, and_false, List.append_nil, mk_b0, mk_b1, mk_b2, mk_bn, Value.int.injEq, Option.toList_some, Option.toList_none, List.cons_append, List.nil_append, Classical.not_not, Option.some.injEq, reduceCtorEq, ne_eq, not_true_eq_false, not_false_eq_true, false_implies, true_implies, d_Law_sort, j_Law_sort, e1, vp_in_nI (show 0 < 1 by decide) (show 1 < 2 ^ 31 by decide), nI_clamp (show 0 < 2 ^ 31 by decide)]
    exact Or.inl ⟨_, f1, _, rfl, hP, rfl, by first | rfl | simp [va_up, upd]⟩
  · rintro ec n1 f1 ⟨rfl, rfl, rfl, hno⟩
    rw [show nm_Hd b_Law_sort = [(0, 12, 15, 13)] by decide +kernel]
    exact ⟨⟨by decide, by decide⟩, by decide, _, k_13_13, Or.inl ⟨⟨nI 1, ⟨5, 17, 1, Or.inl ⟨by simp only [d_Law_sort], rfl⟩, by decide, by simp only [d_Law_sort], by decide, by simp only [d_Law_sort, Nat.reduceAdd]⟩, Or.inr ⟨1, rfl, ⟨rfl, hno⟩, rfl, rfl⟩⟩, k_cs_13⟩⟩
set_option maxRecDepth 20000 in
theorem cW_Law_merge (G : mz_G) (hfl : G.1.flags = pinnedFlags ++ [noTraceFlag]) (n : Nat) (f : mz_H) {x y z w : Int32} {K : Nat} {sz : Nat → Nat} {cd s : Nat → Nat → Nat} {B : bS} {m0 : mS} {u0 : tT} (h : LSt f n K sz cd s B m0 u0) : mz_CtW G mk_P y_Law_merge b_Law_merge 7 (some .int) (r_Law_merge 1 6) [.ref 0, .int x, .int y, .int z, .int w, .ref 171] n f (WP f n (mgP f n K sz cd s x y z w) (fun k => k = 1 ∧ ¬ okMg x y z w ∨ k = 2 ∧ okMg x y z w ∧ ¬ srM s cd sz x y z w)) := by
  have ho := LM_0 h
  obtain ⟨g, e171⟩ := h.2.2.1
  refine mz_CtW_of [some (.ref 0), some (.int x), some (.int y), some (.int z), some (.int w), some (.ref 171), none] (by decide) rfl (Nat.le_of_ble_eq_true rfl) rfl ?_
  refine mz_go [9] 20 ?_
  simp only [mz_run, ev_0, ev_1, ev_2, ev_3, ev_4, ev_5, ev_6, ev_7, ev_8, ev_9, ev_10, ev_11, ev_12, ev_13, ev_14, ev_15, ev_16, ev_17, ev_18, ev_19, ev_20, ev_21, ev_22, ev_23, ev_24, ev_25, ev_26, ev_27, ev_28, ev_29, ev_30, ev_31, ev_32, ev_33, ev_34, ev_35, ev_36, ev_37, ev_38, ev_39, ev_40, ev_41, ev_42, ev_43, ev_44, ev_45, ev_46, ev_47, ev_48, ev_49, ev_50, ev_51, ev_52, ev_53, ev_54, ev_55, ev_56, ev_57, ev_58, ev_59, ev_60, ev_61, ev_62, ev_63, ev_64, ev_65, ev_66, ev_67, ev_68, ev_69, ev_70, ev_71, ev_72, ev_73, ev_74, ev_75, ev_76, ev_77, ev_78, ev_79, ev_80, ev_81, ev_82, ev_83, mk_lit, mk_fin, mk_cat, mk_fit, mk_nar, mk_fld, mk_cls, mk_ty, mk_isr, List.mem_cons, List.not_mem_nil, or_false, or_true, false_or, true_or, Nat.reduceEqDiff, Nat.reduceAdd, Nat.reduceSub, Nat.reduceLT, Nat.reduceLeDiff, reduceIte, if_true, if_false, List.getElem?_cons_zero, List.getElem?_cons_succ, List.set_cons_zero, List.set_cons_succ, List.length_cons, List.length_nil, mz_s1, mz_s2, mz_cl, true_and, and_true, false_and, and_false, List.append_nil, mk_b0, mk_b1, mk_b2, mk_bn, Value.int.injEq, Option.toList_some, Option.toList_none, List.cons_append, List.nil_append, Classical.not_not, Option.some.injEq, reduceCtorEq, ne_eq, not_true_eq_false, not_false_eq_true, false_implies, true_implies, d_Law_merge, j_Law_merge]
  refine mz_callT2 (cn' := 0) (As := [.int x, .int y, .int z, .int w]) (l' := [some (.ref 0), some (.int x), some (.int y), some (.int z), some (.int w)]) (by simp only [d_Law_merge, Nat.reduceAdd]) l_13_19 v_Office_merge rfl (by decide) rfl (by decide) (Nat.le_of_ble_eq_true rfl) rfl (x_Office_merge G hfl n f h.1) ho rfl rfl (by decide) (Nat.le_of_ble_eq_true rfl) rfl ?_ ?_
  · intro v n1 f1 hP
    obtain ⟨_, _, _, _, -, -, -, -, -, -, -, -, -, -, -, rfl, -, -, hF, -⟩ := id hP
    have e1 : f1 171 = aL 1 g := (hF 171 (by decide) (by decide)).trans e171
    refine mz_go [] 20 ?_
    simp only [mz_run, ev_0, ev_1, ev_2, ev_3, ev_4, ev_5, ev_6, ev_7, ev_8, ev_9, ev_10, ev_11, ev_12, ev_13, ev_14, ev_15, ev_16, ev_17, ev_18, ev_19, ev_20, ev_21, ev_22, ev_23, ev_24, ev_25, ev_26, ev_27, ev_28, ev_29, ev_30, ev_31, ev_32, ev_33, ev_34, ev_35, ev_36, ev_37, ev_38, ev_39, ev_40, ev_41, ev_42, ev_43, ev_44, ev_45, ev_46, ev_47, ev_48, ev_49, ev_50, ev_51, ev_52, ev_53, ev_54, ev_55, ev_56, ev_57, ev_58, ev_59, ev_60, ev_61, ev_62, ev_63, ev_64, ev_65, ev_66, ev_67, ev_68, ev_69, ev_70, ev_71, ev_72, ev_73, ev_74, ev_75, ev_76, ev_77, ev_78, ev_79, ev_80, ev_81, ev_82, ev_83, mk_lit, mk_fin, mk_cat, mk_fit, mk_nar, mk_fld, mk_cls, mk_ty, mk_isr, List.mem_cons, List.not_mem_nil, or_false, or_true, false_or, true_or, Nat.reduceEqDiff, Nat.reduceAdd, Nat.reduceSub, Nat.reduceLT, Nat.reduceLeDiff, reduceIte, if_true, if_false, List.getElem?_cons_zero, List.getElem?_cons_succ, List.set_cons_zero, List.set_cons_succ, List.length_cons, List.length_nil, mz_s1, mz_s2, mz_cl, true_and, and_true, false_and, and_false, List.append_nil, mk_b0, mk_b1, mk_b2, mk_bn, Value.int.injEq, Option.toList_some, Option.toList_none, List.cons_append, List.nil_append, Classical.not_not, Option.some.injEq, reduceCtorEq, ne_eq, not_true_eq_false, not_false_eq_true, false_implies, true_implies, d_Law_merge, j_Law_merge, e1, vp_in_nI (show 0 < 1 by decide) (show 1 < 2 ^ 31 by decide), nI_clamp (show 0 < 2 ^ 31 by decide)]
    exact Or.inl ⟨_, f1, _, rfl, hP, rfl, by first | rfl | simp [va_up, upd]⟩
  · rintro ec n1 f1 ⟨hec, rfl, rfl⟩
    rw [show nm_Hd b_Law_merge = [(0, 14, 17, 13), (0, 14, 21, 23)] by decide +kernel]
    rcases hec with ⟨rfl, hno⟩ | ⟨rfl, hok, hno⟩
    · exact ⟨⟨by decide, by decide⟩, by decide, _, k_13_13, Or.inl ⟨⟨nI 1, ⟨6, 19, 1, Or.inl ⟨by simp only [d_Law_merge], rfl⟩, by decide, by simp only [d_Law_merge], by decide, by simp only [d_Law_merge, Nat.reduceAdd]⟩, Or.inr ⟨1, rfl, Or.inl ⟨rfl, hno⟩, rfl, rfl⟩⟩, k_cs_13⟩⟩
    · exact ⟨⟨by decide, by decide⟩, by decide, _, k_13_13, Or.inr ⟨nm_Xm, ⟨⟨by decide, by decide⟩, by decide, _, k_13_23, Or.inl ⟨⟨nI 2, ⟨6, 23, 2, Or.inl ⟨by simp only [d_Law_merge], rfl⟩, by decide, by simp only [d_Law_merge], by decide, by simp only [d_Law_merge, Nat.reduceAdd]⟩, Or.inr ⟨2, rfl, Or.inr ⟨rfl, hok, hno⟩, rfl, rfl⟩⟩, k_cs_23⟩⟩⟩⟩
set_option maxRecDepth 20000 in
theorem cW_Law_match (G : mz_G) (hfl : G.1.flags = pinnedFlags ++ [noTraceFlag]) (n : Nat) (f : mz_H) {x y u z w : Int32} {K : Nat} {sz : Nat → Nat} {cd s : Nat → Nat → Nat} {B : bS} {m0 : mS} {u0 : tT} (h : LSt f n K sz cd s B m0 u0) : mz_CtW G mk_P y_Law_match b_Law_match 8 (some .int) (r_Law_match 1 6) [.ref 0, .int x, .int y, .int u, .int z, .int w, .ref 171] n f (WP f n (mtQ f n K sz cd s x y u z w) (fun k => k = 1 ∧ ¬ okMt x y u z w ∨ k = 2 ∧ okMt x y u z w ∧ ¬ srM s cd sz x y z w)) := by
  have ho := LM_0 h
  obtain ⟨g, e171⟩ := h.2.2.1
  refine mz_CtW_of [some (.ref 0), some (.int x), some (.int y), some (.int u), some (.int z), some (.int w), some (.ref 171), none] (by decide) rfl (Nat.le_of_ble_eq_true rfl) rfl ?_
  refine mz_go [11] 20 ?_
  simp only [mz_run, ev_0, ev_1, ev_2, ev_3, ev_4, ev_5, ev_6, ev_7, ev_8, ev_9, ev_10, ev_11, ev_12, ev_13, ev_14, ev_15, ev_16, ev_17, ev_18, ev_19, ev_20, ev_21, ev_22, ev_23, ev_24, ev_25, ev_26, ev_27, ev_28, ev_29, ev_30, ev_31, ev_32, ev_33, ev_34, ev_35, ev_36, ev_37, ev_38, ev_39, ev_40, ev_41, ev_42, ev_43, ev_44, ev_45, ev_46, ev_47, ev_48, ev_49, ev_50, ev_51, ev_52, ev_53, ev_54, ev_55, ev_56, ev_57, ev_58, ev_59, ev_60, ev_61, ev_62, ev_63, ev_64, ev_65, ev_66, ev_67, ev_68, ev_69, ev_70, ev_71, ev_72, ev_73, ev_74, ev_75, ev_76, ev_77, ev_78, ev_79, ev_80, ev_81, ev_82, ev_83, mk_lit, mk_fin, mk_cat, mk_fit, mk_nar, mk_fld, mk_cls, mk_ty, mk_isr, List.mem_cons, List.not_mem_nil, or_false, or_true, false_or, true_or, Nat.reduceEqDiff, Nat.reduceAdd, Nat.reduceSub, Nat.reduceLT, Nat.reduceLeDiff, reduceIte, if_true, if_false, List.getElem?_cons_zero, List.getElem?_cons_succ, List.set_cons_zero, List.set_cons_succ, List.length_cons, List.length_nil, mz_s1, mz_s2, mz_cl, true_and, and_true, false_and, and_false, List.append_nil, mk_b0, mk_b1, mk_b2, mk_bn, Value.int.injEq, Option.toList_some, Option.toList_none, List.cons_append, List.nil_append, Classical.not_not, Option.some.injEq, reduceCtorEq, ne_eq, not_true_eq_false, not_false_eq_true, false_implies, true_implies, d_Law_match, j_Law_match]
  refine mz_callT2 (cn' := 0) (As := [.int x, .int y, .int u, .int z, .int w]) (l' := [some (.ref 0), some (.int x), some (.int y), some (.int u), some (.int z), some (.int w)]) (by simp only [d_Law_match, Nat.reduceAdd]) l_13_25 v_Office_match rfl (by decide) rfl (by decide) (Nat.le_of_ble_eq_true rfl) rfl (x_Office_match G hfl n f h.1) ho rfl rfl (by decide) (Nat.le_of_ble_eq_true rfl) rfl ?_ ?_
  · intro v n1 f1 hP
    obtain ⟨_, _, _, _, _, _, _, _, -, -, -, -, -, -, -, -, -, -, -, -, -, -, -, -, rfl, -, -, hF, -⟩ := id hP
    have e1 : f1 171 = aL 1 g := (hF 171 (by decide) (by decide)).trans e171
    refine mz_go [] 20 ?_
    simp only [mz_run, ev_0, ev_1, ev_2, ev_3, ev_4, ev_5, ev_6, ev_7, ev_8, ev_9, ev_10, ev_11, ev_12, ev_13, ev_14, ev_15, ev_16, ev_17, ev_18, ev_19, ev_20, ev_21, ev_22, ev_23, ev_24, ev_25, ev_26, ev_27, ev_28, ev_29, ev_30, ev_31, ev_32, ev_33, ev_34, ev_35, ev_36, ev_37, ev_38, ev_39, ev_40, ev_41, ev_42, ev_43, ev_44, ev_45, ev_46, ev_47, ev_48, ev_49, ev_50, ev_51, ev_52, ev_53, ev_54, ev_55, ev_56, ev_57, ev_58, ev_59, ev_60, ev_61, ev_62, ev_63, ev_64, ev_65, ev_66, ev_67, ev_68, ev_69, ev_70, ev_71, ev_72, ev_73, ev_74, ev_75, ev_76, ev_77, ev_78, ev_79, ev_80, ev_81, ev_82, ev_83, mk_lit, mk_fin, mk_cat, mk_fit, mk_nar, mk_fld, mk_cls, mk_ty, mk_isr, List.mem_cons, List.not_mem_nil, or_false, or_true, false_or, true_or, Nat.reduceEqDiff, Nat.reduceAdd, Nat.reduceSub, Nat.reduceLT, Nat.reduceLeDiff, reduceIte, if_true, if_false, List.getElem?_cons_zero, List.getElem?_cons_succ, List.set_cons_zero, List.set_cons_succ, List.length_cons, List.length_nil, mz_s1, mz_s2, mz_cl, true_and, and_true, false_and, and_false, List.append_nil, mk_b0, mk_b1, mk_b2, mk_bn, Value.int.injEq, Option.toList_some, Option.toList_none, List.cons_append, List.nil_append, Classical.not_not, Option.some.injEq, reduceCtorEq, ne_eq, not_true_eq_false, not_false_eq_true, false_implies, true_implies, d_Law_match, j_Law_match, e1, vp_in_nI (show 0 < 1 by decide) (show 1 < 2 ^ 31 by decide), nI_clamp (show 0 < 2 ^ 31 by decide)]
    exact Or.inl ⟨_, f1, _, rfl, hP, rfl, by first | rfl | simp [va_up, upd]⟩
  · rintro ec n1 f1 ⟨hec, rfl, rfl⟩
    rw [show nm_Hd b_Law_match = [(0, 16, 19, 13), (0, 16, 23, 23)] by decide +kernel]
    rcases hec with ⟨rfl, hno⟩ | ⟨rfl, hok, hno⟩
    · exact ⟨⟨by decide, by decide⟩, by decide, _, k_13_13, Or.inl ⟨⟨nI 1, ⟨7, 21, 1, Or.inl ⟨by simp only [d_Law_match], rfl⟩, by decide, by simp only [d_Law_match], by decide, by simp only [d_Law_match, Nat.reduceAdd]⟩, Or.inr ⟨1, rfl, Or.inl ⟨rfl, hno⟩, rfl, rfl⟩⟩, k_cs_13⟩⟩
    · exact ⟨⟨by decide, by decide⟩, by decide, _, k_13_13, Or.inr ⟨nm_Xm, ⟨⟨by decide, by decide⟩, by decide, _, k_13_23, Or.inl ⟨⟨nI 2, ⟨7, 25, 2, Or.inl ⟨by simp only [d_Law_match], rfl⟩, by decide, by simp only [d_Law_match], by decide, by simp only [d_Law_match, Nat.reduceAdd]⟩, Or.inr ⟨2, rfl, Or.inr ⟨rfl, hok, hno⟩, rfl, rfl⟩⟩, k_cs_23⟩⟩⟩⟩
set_option maxRecDepth 20000 in
theorem cW_Law_reproduce (G : mz_G) (hfl : G.1.flags = pinnedFlags ++ [noTraceFlag]) (n : Nat) (f : mz_H) {x y z : Int32} {K : Nat} {sz : Nat → Nat} {cd s : Nat → Nat → Nat} {B : bS} {m0 : mS} {u0 : tT} (h : LSt f n K sz cd s B m0 u0) : mz_CtW G mk_P y_Law_reproduce b_Law_reproduce 6 (some .int) (r_Law_reproduce 400 3400) [.ref 0, .int x, .int y, .int z, .ref 171] n f (WP f n (rpP f K sz cd s B x y z) (fun k => k = 1 ∧ ¬ okRp x y z)) := by
  have ho := LM_0 h
  obtain ⟨g, e171⟩ := h.2.2.1
  refine mz_CtW_of [some (.ref 0), some (.int x), some (.int y), some (.int z), some (.ref 171), none] (by decide) rfl (Nat.le_of_ble_eq_true rfl) rfl ?_
  refine mz_go [7] 20 ?_
  simp only [mz_run, ev_0, ev_1, ev_2, ev_3, ev_4, ev_5, ev_6, ev_7, ev_8, ev_9, ev_10, ev_11, ev_12, ev_13, ev_14, ev_15, ev_16, ev_17, ev_18, ev_19, ev_20, ev_21, ev_22, ev_23, ev_24, ev_25, ev_26, ev_27, ev_28, ev_29, ev_30, ev_31, ev_32, ev_33, ev_34, ev_35, ev_36, ev_37, ev_38, ev_39, ev_40, ev_41, ev_42, ev_43, ev_44, ev_45, ev_46, ev_47, ev_48, ev_49, ev_50, ev_51, ev_52, ev_53, ev_54, ev_55, ev_56, ev_57, ev_58, ev_59, ev_60, ev_61, ev_62, ev_63, ev_64, ev_65, ev_66, ev_67, ev_68, ev_69, ev_70, ev_71, ev_72, ev_73, ev_74, ev_75, ev_76, ev_77, ev_78, ev_79, ev_80, ev_81, ev_82, ev_83, mk_lit, mk_fin, mk_cat, mk_fit, mk_nar, mk_fld, mk_cls, mk_ty, mk_isr, List.mem_cons, List.not_mem_nil, or_false, or_true, false_or, true_or, Nat.reduceEqDiff, Nat.reduceAdd, Nat.reduceSub, Nat.reduceLT, Nat.reduceLeDiff, reduceIte, if_true, if_false, List.getElem?_cons_zero, List.getElem?_cons_succ, List.set_cons_zero, List.set_cons_succ, List.length_cons, List.length_nil, mz_s1, mz_s2, mz_cl, true_and, and_true, false_and, and_false, List.append_nil, mk_b0, mk_b1, mk_b2, mk_bn, Value.int.injEq, Option.toList_some, Option.toList_none, List.cons_append, List.nil_append, Classical.not_not, Option.some.injEq, reduceCtorEq, ne_eq, not_true_eq_false, not_false_eq_true, false_implies, true_implies, d_Law_reproduce, j_Law_reproduce]
  refine mz_callT2 (cn' := 0) (As := [.int x, .int y, .int z]) (l' := [some (.ref 0), some (.int x), some (.int y), some (.int z)]) (by simp only [d_Law_reproduce, Nat.reduceAdd]) l_13_29 v_Office_reproduce rfl (by decide) rfl (by decide) (Nat.le_of_ble_eq_true rfl) rfl (x_Office_reproduce G hfl n f h.1 h.2.2.2.2.1 h.2.2.2.1) ho rfl rfl (by decide) (Nat.le_of_ble_eq_true rfl) rfl ?_ ?_
  · intro v n1 f1 hP
    obtain ⟨_, _, _, _, -, -, -, -, -, -, -, -, rfl, -, hF, -⟩ := id hP
    have e1 : f1 171 = aL 1 g := (hF 171 (by decide) (by decide)).trans e171
    refine mz_go [] 20 ?_
    simp only [mz_run, ev_0, ev_1, ev_2, ev_3, ev_4, ev_5, ev_6, ev_7, ev_8, ev_9, ev_10, ev_11, ev_12, ev_13, ev_14, ev_15, ev_16, ev_17, ev_18, ev_19, ev_20, ev_21, ev_22, ev_23, ev_24, ev_25, ev_26, ev_27, ev_28, ev_29, ev_30, ev_31, ev_32, ev_33, ev_34, ev_35, ev_36, ev_37, ev_38, ev_39, ev_40, ev_41, ev_42, ev_43, ev_44, ev_45, ev_46, ev_47, ev_48, ev_49, ev_50, ev_51, ev_52, ev_53, ev_54, ev_55, ev_56, ev_57, ev_58, ev_59, ev_60, ev_61, ev_62, ev_63, ev_64, ev_65, ev_66, ev_67, ev_68, ev_69, ev_70, ev_71, ev_72, ev_73, ev_74, ev_75, ev_76, ev_77, ev_78, ev_79, ev_80, ev_81, ev_82, ev_83, mk_lit, mk_fin, mk_cat, mk_fit, mk_nar, mk_fld, mk_cls, mk_ty, mk_isr, List.mem_cons, List.not_mem_nil, or_false, or_true, false_or, true_or, Nat.reduceEqDiff, Nat.reduceAdd, Nat.reduceSub, Nat.reduceLT, Nat.reduceLeDiff, reduceIte, if_true, if_false, List.getElem?_cons_zero, List.getElem?_cons_succ, List.set_cons_zero, List.set_cons_succ, List.length_cons, List.length_nil, mz_s1, mz_s2, mz_cl, true_and, and_true, false_and, and_false, List.append_nil, mk_b0, mk_b1, mk_b2, mk_bn, Value.int.injEq, Option.toList_some, Option.toList_none, List.cons_append, List.nil_append, Classical.not_not, Option.some.injEq, reduceCtorEq, ne_eq, not_true_eq_false, not_false_eq_true, false_implies, true_implies, d_Law_reproduce, j_Law_reproduce, e1, vp_in_nI (show 0 < 1 by decide) (show 1 < 2 ^ 31 by decide), nI_clamp (show 0 < 2 ^ 31 by decide)]
    exact Or.inl ⟨_, f1, _, rfl, hP, rfl, by first | rfl | simp [va_up, upd]⟩
  · rintro ec n1 f1 ⟨rfl, rfl, rfl, hno⟩
    rw [show nm_Hd b_Law_reproduce = [(0, 12, 15, 13)] by decide +kernel]
    exact ⟨⟨by decide, by decide⟩, by decide, _, k_13_13, Or.inl ⟨⟨nI 1, ⟨5, 17, 1, Or.inl ⟨by simp only [d_Law_reproduce], rfl⟩, by decide, by simp only [d_Law_reproduce], by decide, by simp only [d_Law_reproduce, Nat.reduceAdd]⟩, Or.inr ⟨1, rfl, ⟨rfl, hno⟩, rfl, rfl⟩⟩, k_cs_13⟩⟩
set_option maxRecDepth 20000 in
theorem cW_Law_gang (G : mz_G) (hfl : G.1.flags = pinnedFlags ++ [noTraceFlag]) (n : Nat) (f : mz_H) {x y z : Int32} {K : Nat} {sz : Nat → Nat} {cd s : Nat → Nat → Nat} {B : bS} {m0 : mS} {u0 : tT} (h : LSt f n K sz cd s B m0 u0) : mz_CtW G mk_P y_Law_gang b_Law_gang 6 (some .int) (r_Law_gang 1 6) [.ref 0, .int x, .int y, .int z, .ref 171] n f (WP f n (gaP f n K sz cd s B x y z) (fun k => k = 1 ∧ ¬ okGa x y z)) := by
  have ho := LM_0 h
  obtain ⟨g, e171⟩ := h.2.2.1
  refine mz_CtW_of [some (.ref 0), some (.int x), some (.int y), some (.int z), some (.ref 171), none] (by decide) rfl (Nat.le_of_ble_eq_true rfl) rfl ?_
  refine mz_go [7] 20 ?_
  simp only [mz_run, ev_0, ev_1, ev_2, ev_3, ev_4, ev_5, ev_6, ev_7, ev_8, ev_9, ev_10, ev_11, ev_12, ev_13, ev_14, ev_15, ev_16, ev_17, ev_18, ev_19, ev_20, ev_21, ev_22, ev_23, ev_24, ev_25, ev_26, ev_27, ev_28, ev_29, ev_30, ev_31, ev_32, ev_33, ev_34, ev_35, ev_36, ev_37, ev_38, ev_39, ev_40, ev_41, ev_42, ev_43, ev_44, ev_45, ev_46, ev_47, ev_48, ev_49, ev_50, ev_51, ev_52, ev_53, ev_54, ev_55, ev_56, ev_57, ev_58, ev_59, ev_60, ev_61, ev_62, ev_63, ev_64, ev_65, ev_66, ev_67, ev_68, ev_69, ev_70, ev_71, ev_72, ev_73, ev_74, ev_75, ev_76, ev_77, ev_78, ev_79, ev_80, ev_81, ev_82, ev_83, mk_lit, mk_fin, mk_cat, mk_fit, mk_nar, mk_fld, mk_cls, mk_ty, mk_isr, List.mem_cons, List.not_mem_nil, or_false, or_true, false_or, true_or, Nat.reduceEqDiff, Nat.reduceAdd, Nat.reduceSub, Nat.reduceLT, Nat.reduceLeDiff, reduceIte, if_true, if_false, List.getElem?_cons_zero, List.getElem?_cons_succ, List.set_cons_zero, List.set_cons_succ, List.length_cons, List.length_nil, mz_s1, mz_s2, mz_cl, true_and, and_true, false_and, and_false, List.append_nil, mk_b0, mk_b1, mk_b2, mk_bn, Value.int.injEq, Option.toList_some, Option.toList_none, List.cons_append, List.nil_append, Classical.not_not, Option.some.injEq, reduceCtorEq, ne_eq, not_true_eq_false, not_false_eq_true, false_implies, true_implies, d_Law_gang, j_Law_gang]
  refine mz_callT2 (cn' := 0) (As := [.int x, .int y, .int z]) (l' := [some (.ref 0), some (.int x), some (.int y), some (.int z)]) (by simp only [d_Law_gang, Nat.reduceAdd]) l_13_32 v_Office_gang rfl (by decide) rfl (by decide) (Nat.le_of_ble_eq_true rfl) rfl (x_Office_gang G hfl n f h.1 h.2.2.2.2.1 h.2.2.2.1) ho rfl rfl (by decide) (Nat.le_of_ble_eq_true rfl) rfl ?_ ?_
  · intro v n1 f1 hP
    obtain ⟨_, _, _, _, -, -, -, -, -, -, -, rfl, -, -, hF, -⟩ := id hP
    have e1 : f1 171 = aL 1 g := (hF 171 (by decide) (by decide)).trans e171
    refine mz_go [] 20 ?_
    simp only [mz_run, ev_0, ev_1, ev_2, ev_3, ev_4, ev_5, ev_6, ev_7, ev_8, ev_9, ev_10, ev_11, ev_12, ev_13, ev_14, ev_15, ev_16, ev_17, ev_18, ev_19, ev_20, ev_21, ev_22, ev_23, ev_24, ev_25, ev_26, ev_27, ev_28, ev_29, ev_30, ev_31, ev_32, ev_33, ev_34, ev_35, ev_36, ev_37, ev_38, ev_39, ev_40, ev_41, ev_42, ev_43, ev_44, ev_45, ev_46, ev_47, ev_48, ev_49, ev_50, ev_51, ev_52, ev_53, ev_54, ev_55, ev_56, ev_57, ev_58, ev_59, ev_60, ev_61, ev_62, ev_63, ev_64, ev_65, ev_66, ev_67, ev_68, ev_69, ev_70, ev_71, ev_72, ev_73, ev_74, ev_75, ev_76, ev_77, ev_78, ev_79, ev_80, ev_81, ev_82, ev_83, mk_lit, mk_fin, mk_cat, mk_fit, mk_nar, mk_fld, mk_cls, mk_ty, mk_isr, List.mem_cons, List.not_mem_nil, or_false, or_true, false_or, true_or, Nat.reduceEqDiff, Nat.reduceAdd, Nat.reduceSub, Nat.reduceLT, Nat.reduceLeDiff, reduceIte, if_true, if_false, List.getElem?_cons_zero, List.getElem?_cons_succ, List.set_cons_zero, List.set_cons_succ, List.length_cons, List.length_nil, mz_s1, mz_s2, mz_cl, true_and, and_true, false_and, and_false, List.append_nil, mk_b0, mk_b1, mk_b2, mk_bn, Value.int.injEq, Option.toList_some, Option.toList_none, List.cons_append, List.nil_append, Classical.not_not, Option.some.injEq, reduceCtorEq, ne_eq, not_true_eq_false, not_false_eq_true, false_implies, true_implies, d_Law_gang, j_Law_gang, e1, vp_in_nI (show 0 < 1 by decide) (show 1 < 2 ^ 31 by decide), nI_clamp (show 0 < 2 ^ 31 by decide)]
    exact Or.inl ⟨_, f1, _, rfl, hP, rfl, by first | rfl | simp [va_up, upd]⟩
  · rintro ec n1 f1 ⟨rfl, rfl, rfl, hno⟩
    rw [show nm_Hd b_Law_gang = [(0, 12, 15, 13)] by decide +kernel]
    exact ⟨⟨by decide, by decide⟩, by decide, _, k_13_13, Or.inl ⟨⟨nI 1, ⟨5, 17, 1, Or.inl ⟨by simp only [d_Law_gang], rfl⟩, by decide, by simp only [d_Law_gang], by decide, by simp only [d_Law_gang, Nat.reduceAdd]⟩, Or.inr ⟨1, rfl, ⟨rfl, hno⟩, rfl, rfl⟩⟩, k_cs_13⟩⟩
set_option maxRecDepth 20000 in
theorem cW_Law_multiply (G : mz_G) (hfl : G.1.flags = pinnedFlags ++ [noTraceFlag]) (n : Nat) (f : mz_H) {x y z w : Int32} {K : Nat} {sz : Nat → Nat} {cd s : Nat → Nat → Nat} {B : bS} {m0 : mS} {u0 : tT} (h : LSt f n K sz cd s B m0 u0) : mz_CtW G mk_P y_Law_multiply b_Law_multiply 7 (some .int) (r_Law_multiply 1 6) [.ref 0, .int x, .int y, .int z, .int w, .ref 171] n f (WP f n (muP f n K sz cd s x y z w) (fun k => k = 1 ∧ ¬ okMu x y z w)) := by
  have ho := LM_0 h
  obtain ⟨g, e171⟩ := h.2.2.1
  refine mz_CtW_of [some (.ref 0), some (.int x), some (.int y), some (.int z), some (.int w), some (.ref 171), none] (by decide) rfl (Nat.le_of_ble_eq_true rfl) rfl ?_
  refine mz_go [9] 20 ?_
  simp only [mz_run, ev_0, ev_1, ev_2, ev_3, ev_4, ev_5, ev_6, ev_7, ev_8, ev_9, ev_10, ev_11, ev_12, ev_13, ev_14, ev_15, ev_16, ev_17, ev_18, ev_19, ev_20, ev_21, ev_22, ev_23, ev_24, ev_25, ev_26, ev_27, ev_28, ev_29, ev_30, ev_31, ev_32, ev_33, ev_34, ev_35, ev_36, ev_37, ev_38, ev_39, ev_40, ev_41, ev_42, ev_43, ev_44, ev_45, ev_46, ev_47, ev_48, ev_49, ev_50, ev_51, ev_52, ev_53, ev_54, ev_55, ev_56, ev_57, ev_58, ev_59, ev_60, ev_61, ev_62, ev_63, ev_64, ev_65, ev_66, ev_67, ev_68, ev_69, ev_70, ev_71, ev_72, ev_73, ev_74, ev_75, ev_76, ev_77, ev_78, ev_79, ev_80, ev_81, ev_82, ev_83, mk_lit, mk_fin, mk_cat, mk_fit, mk_nar, mk_fld, mk_cls, mk_ty, mk_isr, List.mem_cons, List.not_mem_nil, or_false, or_true, false_or, true_or, Nat.reduceEqDiff, Nat.reduceAdd, Nat.reduceSub, Nat.reduceLT, Nat.reduceLeDiff, reduceIte, if_true, if_false, List.getElem?_cons_zero, List.getElem?_cons_succ, List.set_cons_zero, List.set_cons_succ, List.length_cons, List.length_nil, mz_s1, mz_s2, mz_cl, true_and, and_true, false_and, and_false, List.append_nil, mk_b0, mk_b1, mk_b2, mk_bn, Value.int.injEq, Option.toList_some, Option.toList_none, List.cons_append, List.nil_append, Classical.not_not, Option.some.injEq, reduceCtorEq, ne_eq, not_true_eq_false, not_false_eq_true, false_implies, true_implies, d_Law_multiply, j_Law_multiply]
  refine mz_callT2 (cn' := 0) (As := [.int x, .int y, .int z, .int w]) (l' := [some (.ref 0), some (.int x), some (.int y), some (.int z), some (.int w)]) (by simp only [d_Law_multiply, Nat.reduceAdd]) l_13_35 v_Office_multiply rfl (by decide) rfl (by decide) (Nat.le_of_ble_eq_true rfl) rfl (x_Office_multiply G hfl n f h.1) ho rfl rfl (by decide) (Nat.le_of_ble_eq_true rfl) rfl ?_ ?_
  · intro v n1 f1 hP
    obtain ⟨_, _, _, _, _, -, -, -, -, -, -, -, -, -, -, rfl, -, -, hF, -⟩ := id hP
    have e1 : f1 171 = aL 1 g := (hF 171 (by decide) (by decide)).trans e171
    refine mz_go [] 20 ?_
    simp only [mz_run, ev_0, ev_1, ev_2, ev_3, ev_4, ev_5, ev_6, ev_7, ev_8, ev_9, ev_10, ev_11, ev_12, ev_13, ev_14, ev_15, ev_16, ev_17, ev_18, ev_19, ev_20, ev_21, ev_22, ev_23, ev_24, ev_25, ev_26, ev_27, ev_28, ev_29, ev_30, ev_31, ev_32, ev_33, ev_34, ev_35, ev_36, ev_37, ev_38, ev_39, ev_40, ev_41, ev_42, ev_43, ev_44, ev_45, ev_46, ev_47, ev_48, ev_49, ev_50, ev_51, ev_52, ev_53, ev_54, ev_55, ev_56, ev_57, ev_58, ev_59, ev_60, ev_61, ev_62, ev_63, ev_64, ev_65, ev_66, ev_67, ev_68, ev_69, ev_70, ev_71, ev_72, ev_73, ev_74, ev_75, ev_76, ev_77, ev_78, ev_79, ev_80, ev_81, ev_82, ev_83, mk_lit, mk_fin, mk_cat, mk_fit, mk_nar, mk_fld, mk_cls, mk_ty, mk_isr, List.mem_cons, List.not_mem_nil, or_false, or_true, false_or, true_or, Nat.reduceEqDiff, Nat.reduceAdd, Nat.reduceSub, Nat.reduceLT, Nat.reduceLeDiff, reduceIte, if_true, if_false, List.getElem?_cons_zero, List.getElem?_cons_succ, List.set_cons_zero, List.set_cons_succ, List.length_cons, List.length_nil, mz_s1, mz_s2, mz_cl, true_and, and_true, false_and, and_false, List.append_nil, mk_b0, mk_b1, mk_b2, mk_bn, Value.int.injEq, Option.toList_some, Option.toList_none, List.cons_append, List.nil_append, Classical.not_not, Option.some.injEq, reduceCtorEq, ne_eq, not_true_eq_false, not_false_eq_true, false_implies, true_implies, d_Law_multiply, j_Law_multiply, e1, vp_in_nI (show 0 < 1 by decide) (show 1 < 2 ^ 31 by decide), nI_clamp (show 0 < 2 ^ 31 by decide)]
    exact Or.inl ⟨_, f1, _, rfl, hP, rfl, by first | rfl | simp [va_up, upd]⟩
  · rintro ec n1 f1 ⟨rfl, rfl, rfl, hno⟩
    rw [show nm_Hd b_Law_multiply = [(0, 14, 17, 13)] by decide +kernel]
    exact ⟨⟨by decide, by decide⟩, by decide, _, k_13_13, Or.inl ⟨⟨nI 1, ⟨6, 19, 1, Or.inl ⟨by simp only [d_Law_multiply], rfl⟩, by decide, by simp only [d_Law_multiply], by decide, by simp only [d_Law_multiply, Nat.reduceAdd]⟩, Or.inr ⟨1, rfl, ⟨rfl, hno⟩, rfl, rfl⟩⟩, k_cs_13⟩⟩
set_option maxRecDepth 20000 in
theorem cW_Law_tabulate (G : mz_G) (hfl : G.1.flags = pinnedFlags ++ [noTraceFlag]) (n : Nat) (f : mz_H) {x y : Int32} {K : Nat} {sz : Nat → Nat} {cd s : Nat → Nat → Nat} {B : bS} {m0 : mS} {u0 : tT} (h : LSt f n K sz cd s B m0 u0) : mz_CtW G mk_P y_Law_tabulate b_Law_tabulate 5 (some .int) (r_Law_tabulate 1 6) [.ref 0, .int x, .int y, .ref 171] n f (WP f n (taP f n K sz cd s B u0 x y) (fun k => k = 1 ∧ ¬ okTa x y)) := by
  have ho := LM_0 h
  obtain ⟨g, e171⟩ := h.2.2.1
  refine mz_CtW_of [some (.ref 0), some (.int x), some (.int y), some (.ref 171), none] (by decide) rfl (Nat.le_of_ble_eq_true rfl) rfl ?_
  refine mz_go [5] 20 ?_
  simp only [mz_run, ev_0, ev_1, ev_2, ev_3, ev_4, ev_5, ev_6, ev_7, ev_8, ev_9, ev_10, ev_11, ev_12, ev_13, ev_14, ev_15, ev_16, ev_17, ev_18, ev_19, ev_20, ev_21, ev_22, ev_23, ev_24, ev_25, ev_26, ev_27, ev_28, ev_29, ev_30, ev_31, ev_32, ev_33, ev_34, ev_35, ev_36, ev_37, ev_38, ev_39, ev_40, ev_41, ev_42, ev_43, ev_44, ev_45, ev_46, ev_47, ev_48, ev_49, ev_50, ev_51, ev_52, ev_53, ev_54, ev_55, ev_56, ev_57, ev_58, ev_59, ev_60, ev_61, ev_62, ev_63, ev_64, ev_65, ev_66, ev_67, ev_68, ev_69, ev_70, ev_71, ev_72, ev_73, ev_74, ev_75, ev_76, ev_77, ev_78, ev_79, ev_80, ev_81, ev_82, ev_83, mk_lit, mk_fin, mk_cat, mk_fit, mk_nar, mk_fld, mk_cls, mk_ty, mk_isr, List.mem_cons, List.not_mem_nil, or_false, or_true, false_or, true_or, Nat.reduceEqDiff, Nat.reduceAdd, Nat.reduceSub, Nat.reduceLT, Nat.reduceLeDiff, reduceIte, if_true, if_false, List.getElem?_cons_zero, List.getElem?_cons_succ, List.set_cons_zero, List.set_cons_succ, List.length_cons, List.length_nil, mz_s1, mz_s2, mz_cl, true_and, and_true, false_and, and_false, List.append_nil, mk_b0, mk_b1, mk_b2, mk_bn, Value.int.injEq, Option.toList_some, Option.toList_none, List.cons_append, List.nil_append, Classical.not_not, Option.some.injEq, reduceCtorEq, ne_eq, not_true_eq_false, not_false_eq_true, false_implies, true_implies, d_Law_tabulate, j_Law_tabulate]
  refine mz_callT2 (cn' := 0) (As := [.int x, .int y]) (l' := [some (.ref 0), some (.int x), some (.int y)]) (by simp only [d_Law_tabulate, Nat.reduceAdd]) l_13_38 v_Office_tabulate rfl (by decide) rfl (by decide) (Nat.le_of_ble_eq_true rfl) rfl (x_Office_tabulate G hfl n f h.1 h.2.2.2.2.1 h.2.2.2.1 h.2.2.2.2.2.2.2.1) ho rfl rfl (by decide) (Nat.le_of_ble_eq_true rfl) rfl ?_ ?_
  · intro v n1 f1 hP
    obtain ⟨_, _, _, -, -, -, -, -, rfl, -, -, hF, -⟩ := id hP
    have e1 : f1 171 = aL 1 g := (hF 171 (by decide) (by decide)).trans e171
    refine mz_go [] 20 ?_
    simp only [mz_run, ev_0, ev_1, ev_2, ev_3, ev_4, ev_5, ev_6, ev_7, ev_8, ev_9, ev_10, ev_11, ev_12, ev_13, ev_14, ev_15, ev_16, ev_17, ev_18, ev_19, ev_20, ev_21, ev_22, ev_23, ev_24, ev_25, ev_26, ev_27, ev_28, ev_29, ev_30, ev_31, ev_32, ev_33, ev_34, ev_35, ev_36, ev_37, ev_38, ev_39, ev_40, ev_41, ev_42, ev_43, ev_44, ev_45, ev_46, ev_47, ev_48, ev_49, ev_50, ev_51, ev_52, ev_53, ev_54, ev_55, ev_56, ev_57, ev_58, ev_59, ev_60, ev_61, ev_62, ev_63, ev_64, ev_65, ev_66, ev_67, ev_68, ev_69, ev_70, ev_71, ev_72, ev_73, ev_74, ev_75, ev_76, ev_77, ev_78, ev_79, ev_80, ev_81, ev_82, ev_83, mk_lit, mk_fin, mk_cat, mk_fit, mk_nar, mk_fld, mk_cls, mk_ty, mk_isr, List.mem_cons, List.not_mem_nil, or_false, or_true, false_or, true_or, Nat.reduceEqDiff, Nat.reduceAdd, Nat.reduceSub, Nat.reduceLT, Nat.reduceLeDiff, reduceIte, if_true, if_false, List.getElem?_cons_zero, List.getElem?_cons_succ, List.set_cons_zero, List.set_cons_succ, List.length_cons, List.length_nil, mz_s1, mz_s2, mz_cl, true_and, and_true, false_and, and_false, List.append_nil, mk_b0, mk_b1, mk_b2, mk_bn, Value.int.injEq, Option.toList_some, Option.toList_none, List.cons_append, List.nil_append, Classical.not_not, Option.some.injEq, reduceCtorEq, ne_eq, not_true_eq_false, not_false_eq_true, false_implies, true_implies, d_Law_tabulate, j_Law_tabulate, e1, vp_in_nI (show 0 < 1 by decide) (show 1 < 2 ^ 31 by decide), nI_clamp (show 0 < 2 ^ 31 by decide)]
    exact Or.inl ⟨_, f1, _, rfl, hP, rfl, by first | rfl | simp [va_up, upd]⟩
  · rintro ec n1 f1 ⟨rfl, rfl, rfl, hno⟩
    rw [show nm_Hd b_Law_tabulate = [(0, 10, 13, 13)] by decide +kernel]
    exact ⟨⟨by decide, by decide⟩, by decide, _, k_13_13, Or.inl ⟨⟨nI 1, ⟨4, 15, 1, Or.inl ⟨by simp only [d_Law_tabulate], rfl⟩, by decide, by simp only [d_Law_tabulate], by decide, by simp only [d_Law_tabulate, Nat.reduceAdd]⟩, Or.inr ⟨1, rfl, ⟨rfl, hno⟩, rfl, rfl⟩⟩, k_cs_13⟩⟩
set_option maxRecDepth 20000 in
theorem cW_Law_sign (G : mz_G) (hfl : G.1.flags = pinnedFlags ++ [noTraceFlag]) (n : Nat) (f : mz_H) {x y z : Int32} {K : Nat} {sz : Nat → Nat} {cd s : Nat → Nat → Nat} {B : bS} {m0 : mS} {u0 : tT} (h : LSt f n K sz cd s B m0 u0) : mz_CtW G mk_P y_Law_sign b_Law_sign 6 (some .int) (r_Law_sign 1 6) [.ref 0, .int x, .int y, .int z, .ref 171] n f (WP f n (siP f n K sz cd s x y z) (fun k => k = 1 ∧ ¬ okSg sz x y z)) := by
  have ho := LM_0 h
  obtain ⟨g, e171⟩ := h.2.2.1
  refine mz_CtW_of [some (.ref 0), some (.int x), some (.int y), some (.int z), some (.ref 171), none] (by decide) rfl (Nat.le_of_ble_eq_true rfl) rfl ?_
  refine mz_go [7] 20 ?_
  simp only [mz_run, ev_0, ev_1, ev_2, ev_3, ev_4, ev_5, ev_6, ev_7, ev_8, ev_9, ev_10, ev_11, ev_12, ev_13, ev_14, ev_15, ev_16, ev_17, ev_18, ev_19, ev_20, ev_21, ev_22, ev_23, ev_24, ev_25, ev_26, ev_27, ev_28, ev_29, ev_30, ev_31, ev_32, ev_33, ev_34, ev_35, ev_36, ev_37, ev_38, ev_39, ev_40, ev_41, ev_42, ev_43, ev_44, ev_45, ev_46, ev_47, ev_48, ev_49, ev_50, ev_51, ev_52, ev_53, ev_54, ev_55, ev_56, ev_57, ev_58, ev_59, ev_60, ev_61, ev_62, ev_63, ev_64, ev_65, ev_66, ev_67, ev_68, ev_69, ev_70, ev_71, ev_72, ev_73, ev_74, ev_75, ev_76, ev_77, ev_78, ev_79, ev_80, ev_81, ev_82, ev_83, mk_lit, mk_fin, mk_cat, mk_fit, mk_nar, mk_fld, mk_cls, mk_ty, mk_isr, List.mem_cons, List.not_mem_nil, or_false, or_true, false_or, true_or, Nat.reduceEqDiff, Nat.reduceAdd, Nat.reduceSub, Nat.reduceLT, Nat.reduceLeDiff, reduceIte, if_true, if_false, List.getElem?_cons_zero, List.getElem?_cons_succ, List.set_cons_zero, List.set_cons_succ, List.length_cons, List.length_nil, mz_s1, mz_s2, mz_cl, true_and, and_true, false_and, and_false, List.append_nil, mk_b0, mk_b1, mk_b2, mk_bn, Value.int.injEq, Option.toList_some, Option.toList_none, List.cons_append, List.nil_append, Classical.not_not, Option.some.injEq, reduceCtorEq, ne_eq, not_true_eq_false, not_false_eq_true, false_implies, true_implies, d_Law_sign, j_Law_sign]
  refine mz_callT2 (cn' := 0) (As := [.int x, .int y, .int z]) (l' := [some (.ref 0), some (.int x), some (.int y), some (.int z)]) (by simp only [d_Law_sign, Nat.reduceAdd]) l_13_42 v_Office_sign rfl (by decide) rfl (by decide) (Nat.le_of_ble_eq_true rfl) rfl (x_Office_sign G hfl n f h.1) ho rfl rfl (by decide) (Nat.le_of_ble_eq_true rfl) rfl ?_ ?_
  · intro v n1 f1 hP
    obtain ⟨⟨_, _, _, -, -, -, -, -, -, rfl⟩, -, -, hF, -⟩ := id hP
    have e1 : f1 171 = aL 1 g := (hF 171 (by decide) (by decide)).trans e171
    refine mz_go [] 20 ?_
    simp only [mz_run, ev_0, ev_1, ev_2, ev_3, ev_4, ev_5, ev_6, ev_7, ev_8, ev_9, ev_10, ev_11, ev_12, ev_13, ev_14, ev_15, ev_16, ev_17, ev_18, ev_19, ev_20, ev_21, ev_22, ev_23, ev_24, ev_25, ev_26, ev_27, ev_28, ev_29, ev_30, ev_31, ev_32, ev_33, ev_34, ev_35, ev_36, ev_37, ev_38, ev_39, ev_40, ev_41, ev_42, ev_43, ev_44, ev_45, ev_46, ev_47, ev_48, ev_49, ev_50, ev_51, ev_52, ev_53, ev_54, ev_55, ev_56, ev_57, ev_58, ev_59, ev_60, ev_61, ev_62, ev_63, ev_64, ev_65, ev_66, ev_67, ev_68, ev_69, ev_70, ev_71, ev_72, ev_73, ev_74, ev_75, ev_76, ev_77, ev_78, ev_79, ev_80, ev_81, ev_82, ev_83, mk_lit, mk_fin, mk_cat, mk_fit, mk_nar, mk_fld, mk_cls, mk_ty, mk_isr, List.mem_cons, List.not_mem_nil, or_false, or_true, false_or, true_or, Nat.reduceEqDiff, Nat.reduceAdd, Nat.reduceSub, Nat.reduceLT, Nat.reduceLeDiff, reduceIte, if_true, if_false, List.getElem?_cons_zero, List.getElem?_cons_succ, List.set_cons_zero, List.set_cons_succ, List.length_cons, List.length_nil, mz_s1, mz_s2, mz_cl, true_and, and_true, false_and, and_false, List.append_nil, mk_b0, mk_b1, mk_b2, mk_bn, Value.int.injEq, Option.toList_some, Option.toList_none, List.cons_append, List.nil_append, Classical.not_not, Option.some.injEq, reduceCtorEq, ne_eq, not_true_eq_false, not_false_eq_true, false_implies, true_implies, d_Law_sign, j_Law_sign, e1, vp_in_nI (show 0 < 1 by decide) (show 1 < 2 ^ 31 by decide), nI_clamp (show 0 < 2 ^ 31 by decide)]
    exact Or.inl ⟨_, f1, _, rfl, hP, rfl, by first | rfl | simp [va_up, upd]⟩
  · rintro ec n1 f1 ⟨rfl, rfl, rfl, hno⟩
    rw [show nm_Hd b_Law_sign = [(0, 12, 15, 45)] by decide +kernel]
    exact ⟨⟨by decide, by decide⟩, by decide, _, k_13_45, Or.inl ⟨⟨nI 1, ⟨5, 17, 1, Or.inl ⟨by simp only [d_Law_sign], rfl⟩, by decide, by simp only [d_Law_sign], by decide, by simp only [d_Law_sign, Nat.reduceAdd]⟩, Or.inr ⟨1, rfl, ⟨rfl, hno⟩, rfl, rfl⟩⟩, k_cs_45⟩⟩
set_option maxRecDepth 20000 in
theorem cW_Law_printed (G : mz_G) (hfl : G.1.flags = pinnedFlags ++ [noTraceFlag]) (n : Nat) (f : mz_H) {x y : Int32} {K : Nat} {sz : Nat → Nat} {cd s : Nat → Nat → Nat} {B : bS} {m0 : mS} {u0 : tT} (h : LSt f n K sz cd s B m0 u0) : mz_CtW G mk_P y_Law_printed b_Law_printed 5 (some .int) (r_Law_printed 1 6) [.ref 0, .int x, .int y, .ref 171] n f (WP f n (prP f n K sz cd s u0 x y) (fun k => k = 1 ∧ ¬ okPr u0 x y)) := by
  have ho := LM_0 h
  obtain ⟨g, e171⟩ := h.2.2.1
  refine mz_CtW_of [some (.ref 0), some (.int x), some (.int y), some (.ref 171), none] (by decide) rfl (Nat.le_of_ble_eq_true rfl) rfl ?_
  refine mz_go [5] 20 ?_
  simp only [mz_run, ev_0, ev_1, ev_2, ev_3, ev_4, ev_5, ev_6, ev_7, ev_8, ev_9, ev_10, ev_11, ev_12, ev_13, ev_14, ev_15, ev_16, ev_17, ev_18, ev_19, ev_20, ev_21, ev_22, ev_23, ev_24, ev_25, ev_26, ev_27, ev_28, ev_29, ev_30, ev_31, ev_32, ev_33, ev_34, ev_35, ev_36, ev_37, ev_38, ev_39, ev_40, ev_41, ev_42, ev_43, ev_44, ev_45, ev_46, ev_47, ev_48, ev_49, ev_50, ev_51, ev_52, ev_53, ev_54, ev_55, ev_56, ev_57, ev_58, ev_59, ev_60, ev_61, ev_62, ev_63, ev_64, ev_65, ev_66, ev_67, ev_68, ev_69, ev_70, ev_71, ev_72, ev_73, ev_74, ev_75, ev_76, ev_77, ev_78, ev_79, ev_80, ev_81, ev_82, ev_83, mk_lit, mk_fin, mk_cat, mk_fit, mk_nar, mk_fld, mk_cls, mk_ty, mk_isr, List.mem_cons, List.not_mem_nil, or_false, or_true, false_or, true_or, Nat.reduceEqDiff, Nat.reduceAdd, Nat.reduceSub, Nat.reduceLT, Nat.reduceLeDiff, reduceIte, if_true, if_false, List.getElem?_cons_zero, List.getElem?_cons_succ, List.set_cons_zero, List.set_cons_succ, List.length_cons, List.length_nil, mz_s1, mz_s2, mz_cl, true_and, and_true, false_and, and_false, List.append_nil, mk_b0, mk_b1, mk_b2, mk_bn, Value.int.injEq, Option.toList_some, Option.toList_none, List.cons_append, List.nil_append, Classical.not_not, Option.some.injEq, reduceCtorEq, ne_eq, not_true_eq_false, not_false_eq_true, false_implies, true_implies, d_Law_printed, j_Law_printed]
  refine mz_callT2 (cn' := 0) (As := [.int x, .int y]) (l' := [some (.ref 0), some (.int x), some (.int y)]) (by simp only [d_Law_printed, Nat.reduceAdd]) l_13_47 v_Office_printed rfl (by decide) rfl (by decide) (Nat.le_of_ble_eq_true rfl) rfl (x_Office_printed G hfl n f h.1 h.2.2.2.2.2.2.2.1) ho rfl rfl (by decide) (Nat.le_of_ble_eq_true rfl) rfl ?_ ?_
  · intro v n1 f1 hP
    obtain ⟨⟨_, _, -, -, -, -, rfl⟩, -, -, hF, -⟩ := id hP
    have e1 : f1 171 = aL 1 g := (hF 171 (by decide) (by decide)).trans e171
    refine mz_go [] 20 ?_
    simp only [mz_run, ev_0, ev_1, ev_2, ev_3, ev_4, ev_5, ev_6, ev_7, ev_8, ev_9, ev_10, ev_11, ev_12, ev_13, ev_14, ev_15, ev_16, ev_17, ev_18, ev_19, ev_20, ev_21, ev_22, ev_23, ev_24, ev_25, ev_26, ev_27, ev_28, ev_29, ev_30, ev_31, ev_32, ev_33, ev_34, ev_35, ev_36, ev_37, ev_38, ev_39, ev_40, ev_41, ev_42, ev_43, ev_44, ev_45, ev_46, ev_47, ev_48, ev_49, ev_50, ev_51, ev_52, ev_53, ev_54, ev_55, ev_56, ev_57, ev_58, ev_59, ev_60, ev_61, ev_62, ev_63, ev_64, ev_65, ev_66, ev_67, ev_68, ev_69, ev_70, ev_71, ev_72, ev_73, ev_74, ev_75, ev_76, ev_77, ev_78, ev_79, ev_80, ev_81, ev_82, ev_83, mk_lit, mk_fin, mk_cat, mk_fit, mk_nar, mk_fld, mk_cls, mk_ty, mk_isr, List.mem_cons, List.not_mem_nil, or_false, or_true, false_or, true_or, Nat.reduceEqDiff, Nat.reduceAdd, Nat.reduceSub, Nat.reduceLT, Nat.reduceLeDiff, reduceIte, if_true, if_false, List.getElem?_cons_zero, List.getElem?_cons_succ, List.set_cons_zero, List.set_cons_succ, List.length_cons, List.length_nil, mz_s1, mz_s2, mz_cl, true_and, and_true, false_and, and_false, List.append_nil, mk_b0, mk_b1, mk_b2, mk_bn, Value.int.injEq, Option.toList_some, Option.toList_none, List.cons_append, List.nil_append, Classical.not_not, Option.some.injEq, reduceCtorEq, ne_eq, not_true_eq_false, not_false_eq_true, false_implies, true_implies, d_Law_printed, j_Law_printed, e1, vp_in_nI (show 0 < 1 by decide) (show 1 < 2 ^ 31 by decide), nI_clamp (show 0 < 2 ^ 31 by decide)]
    exact Or.inl ⟨_, f1, _, rfl, hP, rfl, by first | rfl | simp [va_up, upd]⟩
  · rintro ec n1 f1 ⟨rfl, rfl, rfl, hno⟩
    rw [show nm_Hd b_Law_printed = [(0, 10, 13, 45)] by decide +kernel]
    exact ⟨⟨by decide, by decide⟩, by decide, _, k_13_45, Or.inl ⟨⟨nI 1, ⟨4, 15, 1, Or.inl ⟨by simp only [d_Law_printed], rfl⟩, by decide, by simp only [d_Law_printed], by decide, by simp only [d_Law_printed, Nat.reduceAdd]⟩, Or.inr ⟨1, rfl, ⟨rfl, hno⟩, rfl, rfl⟩⟩, k_cs_45⟩⟩
set_option maxRecDepth 20000 in
theorem cW_Law_counter (G : mz_G) (hfl : G.1.flags = pinnedFlags ++ [noTraceFlag]) (n : Nat) (f : mz_H) {x : Int32} {K : Nat} {sz : Nat → Nat} {cd s : Nat → Nat → Nat} {B : bS} {m0 : mS} {u0 : tT} (h : LSt f n K sz cd s B m0 u0) : mz_CtW G mk_P y_Law_counter b_Law_counter 4 (some .int) (r_Law_counter 1 6) [.ref 0, .int x, .ref 171] n f (WP f n (coP f n K sz cd s u0 x) (fun k => k = 1 ∧ ¬ okCo x)) := by
  have ho := LM_0 h
  obtain ⟨g, e171⟩ := h.2.2.1
  refine mz_CtW_of [some (.ref 0), some (.int x), some (.ref 171), none] (by decide) rfl (Nat.le_of_ble_eq_true rfl) rfl ?_
  refine mz_go [4] 20 ?_
  simp only [mz_run, ev_0, ev_1, ev_2, ev_3, ev_4, ev_5, ev_6, ev_7, ev_8, ev_9, ev_10, ev_11, ev_12, ev_13, ev_14, ev_15, ev_16, ev_17, ev_18, ev_19, ev_20, ev_21, ev_22, ev_23, ev_24, ev_25, ev_26, ev_27, ev_28, ev_29, ev_30, ev_31, ev_32, ev_33, ev_34, ev_35, ev_36, ev_37, ev_38, ev_39, ev_40, ev_41, ev_42, ev_43, ev_44, ev_45, ev_46, ev_47, ev_48, ev_49, ev_50, ev_51, ev_52, ev_53, ev_54, ev_55, ev_56, ev_57, ev_58, ev_59, ev_60, ev_61, ev_62, ev_63, ev_64, ev_65, ev_66, ev_67, ev_68, ev_69, ev_70, ev_71, ev_72, ev_73, ev_74, ev_75, ev_76, ev_77, ev_78, ev_79, ev_80, ev_81, ev_82, ev_83, mk_lit, mk_fin, mk_cat, mk_fit, mk_nar, mk_fld, mk_cls, mk_ty, mk_isr, List.mem_cons, List.not_mem_nil, or_false, or_true, false_or, true_or, Nat.reduceEqDiff, Nat.reduceAdd, Nat.reduceSub, Nat.reduceLT, Nat.reduceLeDiff, reduceIte, if_true, if_false, List.getElem?_cons_zero, List.getElem?_cons_succ, List.set_cons_zero, List.set_cons_succ, List.length_cons, List.length_nil, mz_s1, mz_s2, mz_cl, true_and, and_true, false_and, and_false, List.append_nil, mk_b0, mk_b1, mk_b2, mk_bn, Value.int.injEq, Option.toList_some, Option.toList_none, List.cons_append, List.nil_append, Classical.not_not, Option.some.injEq, reduceCtorEq, ne_eq, not_true_eq_false, not_false_eq_true, false_implies, true_implies, d_Law_counter, j_Law_counter]
  refine mz_callT2 (cn' := 0) (As := [.int x]) (l' := [some (.ref 0), some (.int x)]) (by simp only [d_Law_counter, Nat.reduceAdd]) l_13_50 v_Office_counter rfl (by decide) rfl (by decide) (Nat.le_of_ble_eq_true rfl) rfl (x_Office_counter G hfl n f h.1 h.2.2.2.2.2.2.2.1) ho rfl rfl (by decide) (Nat.le_of_ble_eq_true rfl) rfl ?_ ?_
  · intro v n1 f1 hP
    obtain ⟨⟨_, -, -, rfl⟩, -, -, hF, -⟩ := id hP
    have e1 : f1 171 = aL 1 g := (hF 171 (by decide) (by decide)).trans e171
    refine mz_go [] 20 ?_
    simp only [mz_run, ev_0, ev_1, ev_2, ev_3, ev_4, ev_5, ev_6, ev_7, ev_8, ev_9, ev_10, ev_11, ev_12, ev_13, ev_14, ev_15, ev_16, ev_17, ev_18, ev_19, ev_20, ev_21, ev_22, ev_23, ev_24, ev_25, ev_26, ev_27, ev_28, ev_29, ev_30, ev_31, ev_32, ev_33, ev_34, ev_35, ev_36, ev_37, ev_38, ev_39, ev_40, ev_41, ev_42, ev_43, ev_44, ev_45, ev_46, ev_47, ev_48, ev_49, ev_50, ev_51, ev_52, ev_53, ev_54, ev_55, ev_56, ev_57, ev_58, ev_59, ev_60, ev_61, ev_62, ev_63, ev_64, ev_65, ev_66, ev_67, ev_68, ev_69, ev_70, ev_71, ev_72, ev_73, ev_74, ev_75, ev_76, ev_77, ev_78, ev_79, ev_80, ev_81, ev_82, ev_83, mk_lit, mk_fin, mk_cat, mk_fit, mk_nar, mk_fld, mk_cls, mk_ty, mk_isr, List.mem_cons, List.not_mem_nil, or_false, or_true, false_or, true_or, Nat.reduceEqDiff, Nat.reduceAdd, Nat.reduceSub, Nat.reduceLT, Nat.reduceLeDiff, reduceIte, if_true, if_false, List.getElem?_cons_zero, List.getElem?_cons_succ, List.set_cons_zero, List.set_cons_succ, List.length_cons, List.length_nil, mz_s1, mz_s2, mz_cl, true_and, and_true, false_and, and_false, List.append_nil, mk_b0, mk_b1, mk_b2, mk_bn, Value.int.injEq, Option.toList_some, Option.toList_none, List.cons_append, List.nil_append, Classical.not_not, Option.some.injEq, reduceCtorEq, ne_eq, not_true_eq_false, not_false_eq_true, false_implies, true_implies, d_Law_counter, j_Law_counter, e1, vp_in_nI (show 0 < 1 by decide) (show 1 < 2 ^ 31 by decide), nI_clamp (show 0 < 2 ^ 31 by decide)]
    exact Or.inl ⟨_, f1, _, rfl, hP, rfl, by first | rfl | simp [va_up, upd]⟩
  · rintro ec n1 f1 ⟨rfl, rfl, rfl, hno⟩
    rw [show nm_Hd b_Law_counter = [(0, 9, 12, 45)] by decide +kernel]
    exact ⟨⟨by decide, by decide⟩, by decide, _, k_13_45, Or.inl ⟨⟨nI 1, ⟨3, 13, 1, Or.inr ⟨3, by simp only [d_Law_counter], rfl, rfl⟩, by decide, by simp only [d_Law_counter], by decide, by simp only [d_Law_counter, Nat.reduceAdd]⟩, Or.inr ⟨1, rfl, ⟨rfl, hno⟩, rfl, rfl⟩⟩, k_cs_45⟩⟩
end
