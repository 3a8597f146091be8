theorem mk_lit : Int32.ofInt (-1) = -1 ∧ Int32.ofInt 0 = nI 0 ∧ Int32.ofInt 1 = nI 1 ∧ Int32.ofInt 2 = nI 2 ∧ Int32.ofInt 3 = nI 3 ∧ Int32.ofInt 4 = nI 4 ∧ Int32.ofInt 5 = nI 5 ∧ Int32.ofInt 6 = nI 6 ∧ (Int8.ofInt (-2)).toInt32 = -2 ∧ (Int8.ofInt 6).toInt32 = nI 6 ∧ (Int8.ofInt 8).toInt32 = nI 8 ∧ (Int8.ofInt 9).toInt32 = nI 9 ∧ (Int8.ofInt 10).toInt32 = nI 10 ∧ (Int8.ofInt 11).toInt32 = nI 11 ∧ (Int8.ofInt 14).toInt32 = nI 14 ∧ (Int8.ofInt 15).toInt32 = nI 15 ∧ (Int8.ofInt 16).toInt32 = nI 16 ∧ (Int8.ofInt 24).toInt32 = nI 24 ∧ (Int8.ofInt 26).toInt32 = nI 26 ∧ (Int8.ofInt 31).toInt32 = nI 31 ∧ (Int8.ofInt 32).toInt32 = nI 32 ∧ (Int8.ofInt 40).toInt32 = nI 40 ∧ (Int8.ofInt 48).toInt32 = nI 48 ∧ (Int8.ofInt 56).toInt32 = nI 56 ∧ (Int8.ofInt 57).toInt32 = nI 57 ∧ (Int8.ofInt 64).toInt32 = nI 64 ∧ (Int8.ofInt 65).toInt32 = nI 65 ∧ (Int8.ofInt 73).toInt32 = nI 73 ∧ (Int8.ofInt 74).toInt32 = nI 74 ∧ (Int8.ofInt 81).toInt32 = nI 81 ∧ (Int8.ofInt 83).toInt32 = nI 83 ∧ (Int8.ofInt 88).toInt32 = nI 88 ∧ (Int8.ofInt 90).toInt32 = nI 90 ∧ (Int8.ofInt 96).toInt32 = nI 96 ∧ (Int8.ofInt 99).toInt32 = nI 99 ∧ (Int8.ofInt 100).toInt32 = nI 100 ∧ (Int16.ofInt 160).toInt32 = nI 160 ∧ (Int16.ofInt 200).toInt32 = nI 200 ∧ (Int16.ofInt 255).toInt32 = nI 255 ∧ (Int16.ofInt 1600).toInt32 = nI 1600 ∧ (Int16.ofInt 2400).toInt32 = nI 2400 ∧ (Int16.ofInt 3200).toInt32 = nI 3200 := by decide +kernel
theorem mk_fin : ((0 : Fin 4).val = 0) ∧ ((1 : Fin 4).val = 1) ∧ ((2 : Fin 4).val = 2) ∧ ((3 : Fin 4).val = 3) := by decide
theorem mk_cat : (∀ x, (Value.int x).category = 1) ∧ (∀ x, (Value.long x).category = 2) ∧ (∀ x, (Value.ref x).category = 1) ∧ Value.null.category = 1 := ⟨fun _ => rfl, fun _ => rfl, fun _ => rfl, rfl⟩
theorem mk_fit : (∀ x, mz_fit .int (.int x) = True) ∧ (∀ c a, mz_fit (.object c) (.ref a) = True) ∧ (∀ c a, mz_fit (.array c) (.ref a) = True) ∧ (mz_fit .boolean (.int (nI 0)) = True) ∧ (mz_fit .boolean (.int (nI 1)) = True) := ⟨fun _ => eq_true ⟨rfl, rfl⟩, fun _ _ => eq_true ⟨rfl, rfl⟩, fun _ _ => eq_true ⟨rfl, rfl⟩, eq_true ⟨by decide +kernel, by decide +kernel⟩, eq_true ⟨by decide +kernel, by decide +kernel⟩⟩
theorem mk_nar : (∀ x, narrow .int (.int x) = .int x) ∧ (narrow .boolean (.int (nI 0)) = .int (nI 0)) ∧ (narrow .boolean (.int (nI 1)) = .int (nI 1)) := ⟨fun _ => rfl, by decide +kernel, by decide +kernel⟩
theorem mk_fld : nm_FTy 0 0 = .array (.object "CardOffice$Deck") ∧ nm_Fin 0 0 = true ∧ nm_FTy 0 1 = .array (.object "CardOffice$Board") ∧ nm_Fin 0 1 = true ∧ nm_FTy 0 2 = .array (.int) ∧ nm_Fin 0 2 = true ∧ nm_FTy 0 3 = .object "CardOffice$FaultLight" ∧ nm_Fin 0 3 = true ∧ nm_FTy 0 4 = .object "CardOffice$Sorter" ∧ nm_Fin 0 4 = true ∧ nm_FTy 0 5 = .object "CardOffice$Collator" ∧ nm_Fin 0 5 = true ∧ nm_FTy 0 6 = .object "CardOffice$Reproducer" ∧ nm_Fin 0 6 = true ∧ nm_FTy 0 7 = .object "CardOffice$Tabulator" ∧ nm_Fin 0 7 = true ∧ nm_FTy 1 0 = .array (.int) ∧ nm_Fin 1 0 = true ∧ nm_FTy 1 1 = .array (.int) ∧ nm_Fin 1 1 = true ∧ nm_FTy 1 2 = .array (.int) ∧ nm_Fin 1 2 = true ∧ nm_FTy 1 3 = .int ∧ nm_Fin 1 3 = false ∧ nm_FTy 2 0 = .array (.int) ∧ nm_Fin 2 0 = true ∧ nm_FTy 3 0 = .object "CardOffice$Deck" ∧ nm_Fin 3 0 = true ∧ nm_FTy 3 1 = .object "CardOffice$Deck" ∧ nm_Fin 3 1 = true ∧ nm_FTy 3 2 = .int ∧ nm_Fin 3 2 = false ∧ nm_FTy 4 0 = .array (.object "CardOffice$Card") ∧ nm_Fin 4 0 = true ∧ nm_FTy 4 1 = .int ∧ nm_Fin 4 1 = false ∧ nm_FTy 5 0 = .int ∧ nm_Fin 5 0 = false ∧ nm_FTy 5 1 = .int ∧ nm_Fin 5 1 = false ∧ nm_FTy 6 0 = .int ∧ nm_Fin 6 0 = true ∧ nm_FTy 6 1 = .array (.int) ∧ nm_Fin 6 1 = true ∧ nm_FTy 6 2 = .boolean ∧ nm_Fin 6 2 = false ∧ nm_FTy 7 0 = .array (.array (.int)) ∧ nm_Fin 7 0 = true ∧ nm_FTy 7 1 = .int ∧ nm_Fin 7 1 = false ∧ nm_FTy 8 0 = .object "CardOffice$Jacks" ∧ nm_Fin 8 0 = true ∧ nm_FTy 9 0 = .array (.int) ∧ nm_Fin 9 0 = true ∧ nm_FTy 9 1 = .array (.object "CardOffice$Card") ∧ nm_Fin 9 1 = true ∧ nm_FTy 9 2 = .int ∧ nm_Fin 9 2 = false ∧ nm_FTy 10 0 = .array (.int) ∧ nm_Fin 10 0 = true ∧ nm_FTy 10 1 = .object "CardOffice$Paper" ∧ nm_Fin 10 1 = true ∧ nm_FTy 10 2 = .object "CardOffice$Jacks" ∧ nm_Fin 10 2 = true ∧ nm_FTy 10 3 = .object "CardOffice$Jacks" ∧ nm_Fin 10 3 = true ∧ nm_FTy 10 4 = .object "CardOffice$Jacks" ∧ nm_Fin 10 4 = true ∧ nm_FTy 11 0 = .int ∧ nm_Fin 11 0 = false ∧ nm_FTy 11 1 = .int ∧ nm_Fin 11 1 = false ∧ nm_FTy 11 2 = .array (.byte) ∧ nm_Fin 11 2 = true ∧ nm_FTy 11 3 = .array (.short) ∧ nm_Fin 11 3 = true ∧ nm_FTy 11 4 = .array (.int) ∧ nm_Fin 11 4 = true ∧ nm_FTy 11 5 = .array (.short) ∧ nm_Fin 11 5 = true ∧ nm_FTy 11 6 = .array (.short) ∧ nm_Fin 11 6 = true ∧ nm_FTy 11 7 = .array (.byte) ∧ nm_Fin 11 7 = true ∧ nm_FTy 11 8 = .array (.byte) ∧ nm_Fin 11 8 = true ∧ nm_FTy 11 9 = .array (.int) ∧ nm_Fin 11 9 = true ∧ nm_FTy 11 10 = .array (.int) ∧ nm_Fin 11 10 = true ∧ nm_FTy 11 11 = .array (.int) ∧ nm_Fin 11 11 = true ∧ nm_FTy 11 12 = .array (.int) ∧ nm_Fin 11 12 = true ∧ nm_FTy 11 13 = .array (.byte) ∧ nm_Fin 11 13 = true ∧ nm_FTy 11 14 = .int ∧ nm_Fin 11 14 = false ∧ nm_FTy 11 15 = .int ∧ nm_Fin 11 15 = false ∧ nm_FTy 11 16 = .int ∧ nm_Fin 11 16 = false ∧ nm_FTy 11 17 = .int ∧ nm_Fin 11 17 = false ∧ nm_FTy 11 18 = .int ∧ nm_Fin 11 18 = false := ⟨rfl, rfl, rfl, rfl, rfl, rfl, rfl, rfl, rfl, rfl, rfl, rfl, rfl, rfl, rfl, rfl, rfl, rfl, rfl, rfl, rfl, rfl, rfl, rfl, rfl, rfl, rfl, rfl, rfl, rfl, rfl, rfl, rfl, rfl, rfl, rfl, rfl, rfl, rfl, rfl, rfl, rfl, rfl, rfl, rfl, rfl, rfl, rfl, rfl, rfl, rfl, rfl, rfl, rfl, rfl, rfl, rfl, rfl, rfl, rfl, rfl, rfl, rfl, rfl, rfl, rfl, rfl, rfl, rfl, rfl, rfl, rfl, rfl, rfl, rfl, rfl, rfl, rfl, rfl, rfl, rfl, rfl, rfl, rfl, rfl, rfl, rfl, rfl, rfl, rfl, rfl, rfl, rfl, rfl, rfl, rfl, rfl, rfl, rfl, rfl, rfl, rfl, rfl, rfl, rfl, rfl⟩
theorem mk_cls : nm_Cl[0]? = some ("CardOffice", nm_T0, 8) ∧ nm_Cl[1]? = some ("CardOffice$Board", nm_T1, 4) ∧ nm_Cl[2]? = some ("CardOffice$Card", nm_T2, 1) ∧ nm_Cl[3]? = some ("CardOffice$Collator", nm_T3, 3) ∧ nm_Cl[4]? = some ("CardOffice$Deck", nm_T4, 2) ∧ nm_Cl[5]? = some ("CardOffice$FaultLight", nm_T5, 2) ∧ nm_Cl[6]? = some ("CardOffice$Jacks", nm_T6, 3) ∧ nm_Cl[7]? = some ("CardOffice$Paper", nm_T7, 2) ∧ nm_Cl[8]? = some ("CardOffice$Reproducer", nm_T8, 1) ∧ nm_Cl[9]? = some ("CardOffice$Sorter", nm_T9, 3) ∧ nm_Cl[10]? = some ("CardOffice$Tabulator", nm_T10, 5) ∧ nm_Cl[11]? = some ("CardOfficeModel", nm_T11, 19) := ⟨rfl, rfl, rfl, rfl, rfl, rfl, rfl, rfl, rfl, rfl, rfl, rfl⟩
theorem mk_ty : nm_Ty[0]? = some (.int) ∧ nm_Ty[1]? = some (.byte) ∧ nm_Ty[2]? = some (.short) ∧ nm_Ty[3]? = some (.long) ∧ nm_Ty[4]? = some (.object "CardOffice$Deck") ∧ nm_Ty[5]? = some (.object "CardOffice$Board") ∧ nm_Ty[6]? = some (.object "CardOffice$Card") ∧ nm_Ty[7]? = some (.array .int) := ⟨rfl, rfl, rfl, rfl, rfl, rfl, rfl, rfl⟩
theorem mk_isr : (∀ c, (FieldType.object c).isReference = true) ∧ (∀ c, (FieldType.array c).isReference = true) := ⟨fun _ => rfl, fun _ => rfl⟩
theorem mk_get0 {a : Option Value} {l : mz_L} : (a :: l)[0]? = some a := rfl
theorem mk_get1 {a b : Option Value} {l : mz_L} : (a :: b :: l)[1]? = some b := rfl
theorem mk_Ct {G : mz_G} {X : mz_E} {y : MethodName} {cc : ByteArray} {nL : Nat} {ret : Option FieldType} {rm : Room} {vs : List Value} {n : Nat} {f : mz_H} {post : Option Value → Nat → mz_H → Prop} (cn : Nat) (ini : Bool) (l : mz_L) (hy : plainName y.cls = true) (hcn : y.cls = nm_Own cn) (hin : ini = true → y.name = "<init>") (hlen : (mz_la vs).length ≤ nL) (hl : mz_l0 nL vs = l)
    (h : mz_X G X cn ini cc nL ret rm post (fun _ _ _ => False) 0 l [] 0 0 n f) (hh : cn = 13 → nm_Hd cc = [] := by decide) : mz_Ct G X y cc nL ret rm vs n f post := mz_Ct_of cn ini hy hcn hin hlen hh (by rw [hl]; exact h)
def mk_b (c : Prop) [Decidable c] : Int32 := if c then nI 1 else nI 0
theorem mk_b_t {c : Prop} [Decidable c] (h : c) : mk_b c = nI 1 := if_pos h
theorem mk_b_f {c : Prop} [Decidable c] (h : ¬ c) : mk_b c = nI 0 := if_neg h
theorem mk_b0 (c : Prop) [Decidable c] : (mk_b c = 0) = ¬ c := by
  by_cases h : c
  · rw [mk_b_t h]; simp [h]; decide
  · rw [mk_b_f h]; simp [h]; decide
theorem mk_b1 (c : Prop) [Decidable c] : (nI 1 = mk_b c) = c := by
  by_cases h : c
  · rw [mk_b_t h]; simp [h]
  · rw [mk_b_f h]; simp [h]; decide
theorem mk_b2 (c : Prop) [Decidable c] : (nI 0 = mk_b c) = ¬ c := by
  by_cases h : c
  · rw [mk_b_t h]; simp [h]; decide
  · rw [mk_b_f h]; simp [h]
theorem mk_bn (c : Prop) [Decidable c] : (narrow .boolean (.int (mk_b c)) = .int (mk_b c)) = True := by
  by_cases h : c
  · rw [mk_b_t h]; simp; decide +kernel
  · rw [mk_b_f h]; simp; decide +kernel
theorem mk_lt (x y : Int32) : (x < y) = (x.toInt < y.toInt) := propext Int32.lt_iff_toInt_lt
theorem mk_le (x y : Int32) : (x ≤ y) = (x.toInt ≤ y.toInt) := propext Int32.le_iff_toInt_le
theorem mk_eq (x y : Int32) : (x = y) = (x.toInt = y.toInt) := propext Int32.toInt_inj.symm
abbrev aI (N : Nat) (g : Nat → Int32) : mz_C := .inl (0, N, .inl g)
abbrev aB (N : Nat) (g : Nat → Int32) : mz_C := .inl (1, N, .inl g)
abbrev aS (N : Nat) (g : Nat → Int32) : mz_C := .inl (2, N, .inl g)
abbrev aQ (t N : Nat) (g : Nat → Option Nat) : mz_C := .inl (t, N, .inr (.inr (.inr (.inr g))))
theorem mk_ti : (nI 0).toInt = 0 ∧ (nI 1).toInt = 1 ∧ (nI 2).toInt = 2 ∧ (nI 3).toInt = 3 ∧ (nI 4).toInt = 4 ∧ (nI 5).toInt = 5 ∧ (nI 6).toInt = 6 ∧ (nI 8).toInt = 8 ∧ (nI 9).toInt = 9 ∧ (nI 10).toInt = 10 ∧ (nI 11).toInt = 11 ∧ (nI 14).toInt = 14 ∧ (nI 15).toInt = 15 ∧ (nI 16).toInt = 16 ∧ (nI 24).toInt = 24 ∧ (nI 26).toInt = 26 ∧ (nI 31).toInt = 31 ∧ (nI 32).toInt = 32 ∧ (nI 40).toInt = 40 ∧ (nI 48).toInt = 48 ∧ (nI 56).toInt = 56 ∧ (nI 57).toInt = 57 ∧ (nI 64).toInt = 64 ∧ (nI 65).toInt = 65 ∧ (nI 73).toInt = 73 ∧ (nI 74).toInt = 74 ∧ (nI 81).toInt = 81 ∧ (nI 83).toInt = 83 ∧ (nI 88).toInt = 88 ∧ (nI 90).toInt = 90 ∧ (nI 96).toInt = 96 ∧ (nI 99).toInt = 99 ∧ (nI 100).toInt = 100 ∧ (nI 160).toInt = 160 ∧ (nI 200).toInt = 200 ∧ (nI 255).toInt = 255 ∧ (nI 1600).toInt = 1600 ∧ (nI 2400).toInt = 2400 ∧ (nI 3200).toInt = 3200 ∧ (0 : Int32).toInt = 0 ∧ (-1 : Int32).toInt = -1 := by decide +kernel
def mk_X : mz_E := fun _ => none
def mk_pw (k : Nat) : Int32 := if k = 0 then nI 1 else if k = 1 then nI 10 else if k = 2 then nI 100 else if k = 3 then nI 1000 else if k = 4 then nI 10000 else if k = 5 then nI 100000 else nI 1000000
def mk_P : mz_E := fun a => if a = 1000000000001 then some (7, mk_pw) else none
theorem mk_sta : nm_Sta 12 45 = some 1000000000001 ∧ nm_Sta 1 64 = some 1000000000001 ∧ nm_Sta 10 126 = some 1000000000001 := by decide +kernel
theorem mk_con : nm_Con 11 206 = some (nI 999999) ∧ nm_ConL 12 39 = some (-1) ∧ nm_ConL 12 43 = some (10) ∧ nm_ConL 12 41 = some (5) ∧ nm_ConL 11 69 = some (255) ∧ nm_ConL 11 172 = some (5) ∧ nm_ConL 11 161 = some (10) ∧ nm_ConL 13 58 = some (4294967295) := by decide +kernel
theorem mk_P1 : mk_P 1000000000001 = some (7, mk_pw) := rfl
theorem j_Office_init_89 : mz_t 89 22 = 111 ∧ (0 ≤ ((89 : Nat) : Int) + 22) := by decide +kernel
theorem j_Office_init_108 : mz_t 108 (-22) = 86 ∧ (0 ≤ ((108 : Nat) : Int) + (-22)) := by decide +kernel
theorem j_Office_init_115 : mz_t 115 22 = 137 ∧ (0 ≤ ((115 : Nat) : Int) + 22) := by decide +kernel
theorem j_Office_init_134 : mz_t 134 (-21) = 113 ∧ (0 ≤ ((134 : Nat) : Int) + (-21)) := by decide +kernel
theorem j_Office_init : mz_t 89 22 = 111 ∧ (0 ≤ ((89 : Nat) : Int) + 22) ∧ mz_t 108 (-22) = 86 ∧ (0 ≤ ((108 : Nat) : Int) + (-22)) ∧ mz_t 115 22 = 137 ∧ (0 ≤ ((115 : Nat) : Int) + 22) ∧ mz_t 134 (-21) = 113 ∧ (0 ≤ ((134 : Nat) : Int) + (-21)) := by decide +kernel
theorem j_Arrays_fill_7 : mz_t 7 13 = 20 ∧ (0 ≤ ((7 : Nat) : Int) + 13) := by decide +kernel
theorem j_Arrays_fill_17 : mz_t 17 (-12) = 5 ∧ (0 ≤ ((17 : Nat) : Int) + (-12)) := by decide +kernel
theorem j_Arrays_fill : mz_t 7 13 = 20 ∧ (0 ≤ ((7 : Nat) : Int) + 13) ∧ mz_t 17 (-12) = 5 ∧ (0 ≤ ((17 : Nat) : Int) + (-12)) := by decide +kernel
theorem j_Office_card_4 : mz_t 4 13 = 17 ∧ (0 ≤ ((4 : Nat) : Int) + 13) := by decide +kernel
theorem j_Office_card_14 : mz_t 14 5 = 19 ∧ (0 ≤ ((14 : Nat) : Int) + 5) := by decide +kernel
theorem j_Office_card_25 : mz_t 25 14 = 39 ∧ (0 ≤ ((25 : Nat) : Int) + 14) := by decide +kernel
theorem j_Office_card_36 : mz_t 36 5 = 41 ∧ (0 ≤ ((36 : Nat) : Int) + 5) := by decide +kernel
theorem j_Office_card_57 : mz_t 57 24 = 81 ∧ (0 ≤ ((57 : Nat) : Int) + 24) := by decide +kernel
theorem j_Office_card_78 : mz_t 78 (-25) = 53 ∧ (0 ≤ ((78 : Nat) : Int) + (-25)) := by decide +kernel
theorem j_Office_card : mz_t 4 13 = 17 ∧ (0 ≤ ((4 : Nat) : Int) + 13) ∧ mz_t 14 5 = 19 ∧ (0 ≤ ((14 : Nat) : Int) + 5) ∧ mz_t 25 14 = 39 ∧ (0 ≤ ((25 : Nat) : Int) + 14) ∧ mz_t 36 5 = 41 ∧ (0 ≤ ((36 : Nat) : Int) + 5) ∧ mz_t 57 24 = 81 ∧ (0 ≤ ((57 : Nat) : Int) + 24) ∧ mz_t 78 (-25) = 53 ∧ (0 ≤ ((78 : Nat) : Int) + (-25)) := by decide +kernel
theorem j_Office_isDeck_1 : mz_t 1 13 = 14 ∧ (0 ≤ ((1 : Nat) : Int) + 13) := by decide +kernel
theorem j_Office_isDeck_7 : mz_t 7 7 = 14 ∧ (0 ≤ ((7 : Nat) : Int) + 7) := by decide +kernel
theorem j_Office_isDeck_11 : mz_t 11 4 = 15 ∧ (0 ≤ ((11 : Nat) : Int) + 4) := by decide +kernel
theorem j_Office_isDeck : mz_t 1 13 = 14 ∧ (0 ≤ ((1 : Nat) : Int) + 13) ∧ mz_t 7 7 = 14 ∧ (0 ≤ ((7 : Nat) : Int) + 7) ∧ mz_t 11 4 = 15 ∧ (0 ≤ ((11 : Nat) : Int) + 4) := by decide +kernel
theorem j_Office_cardsInAll_7 : mz_t 7 21 = 28 ∧ (0 ≤ ((7 : Nat) : Int) + 21) := by decide +kernel
theorem j_Office_cardsInAll_25 : mz_t 25 (-21) = 4 ∧ (0 ≤ ((25 : Nat) : Int) + (-21)) := by decide +kernel
theorem j_Office_cardsInAll : mz_t 7 21 = 28 ∧ (0 ≤ ((7 : Nat) : Int) + 21) ∧ mz_t 25 (-21) = 4 ∧ (0 ≤ ((25 : Nat) : Int) + (-21)) := by decide +kernel
theorem j_Office_readColumns_7 : mz_t 7 47 = 54 ∧ (0 ≤ ((7 : Nat) : Int) + 47) := by decide +kernel
theorem j_Office_readColumns_32 : mz_t 32 5 = 37 ∧ (0 ≤ ((32 : Nat) : Int) + 5) := by decide +kernel
theorem j_Office_readColumns_51 : mz_t 51 (-48) = 3 ∧ (0 ≤ ((51 : Nat) : Int) + (-48)) := by decide +kernel
theorem j_Office_readColumns : mz_t 7 47 = 54 ∧ (0 ≤ ((7 : Nat) : Int) + 47) ∧ mz_t 32 5 = 37 ∧ (0 ≤ ((32 : Nat) : Int) + 5) ∧ mz_t 51 (-48) = 3 ∧ (0 ≤ ((51 : Nat) : Int) + (-48)) := by decide +kernel
theorem j_Office_isSign_3 : mz_t 3 27 = 30 ∧ (0 ≤ ((3 : Nat) : Int) + 27) := by decide +kernel
theorem j_Office_isSign_9 : mz_t 9 9 = 18 ∧ (0 ≤ ((9 : Nat) : Int) + 9) := by decide +kernel
theorem j_Office_isSign_15 : mz_t 15 15 = 30 ∧ (0 ≤ ((15 : Nat) : Int) + 15) := by decide +kernel
theorem j_Office_isSign_21 : mz_t 21 13 = 34 ∧ (0 ≤ ((21 : Nat) : Int) + 13) := by decide +kernel
theorem j_Office_isSign_27 : mz_t 27 7 = 34 ∧ (0 ≤ ((27 : Nat) : Int) + 7) := by decide +kernel
theorem j_Office_isSign_31 : mz_t 31 4 = 35 ∧ (0 ≤ ((31 : Nat) : Int) + 4) := by decide +kernel
theorem j_Office_isSign : mz_t 3 27 = 30 ∧ (0 ≤ ((3 : Nat) : Int) + 27) ∧ mz_t 9 9 = 18 ∧ (0 ≤ ((9 : Nat) : Int) + 9) ∧ mz_t 15 15 = 30 ∧ (0 ≤ ((15 : Nat) : Int) + 15) ∧ mz_t 21 13 = 34 ∧ (0 ≤ ((21 : Nat) : Int) + 13) ∧ mz_t 27 7 = 34 ∧ (0 ≤ ((27 : Nat) : Int) + 7) ∧ mz_t 31 4 = 35 ∧ (0 ≤ ((31 : Nat) : Int) + 4) := by decide +kernel
theorem j_Office_wire_4 : mz_t 4 17 = 21 ∧ (0 ≤ ((4 : Nat) : Int) + 17) := by decide +kernel
theorem j_Office_wire_11 : mz_t 11 10 = 21 ∧ (0 ≤ ((11 : Nat) : Int) + 10) := by decide +kernel
theorem j_Office_wire_18 : mz_t 18 5 = 23 ∧ (0 ≤ ((18 : Nat) : Int) + 5) := by decide +kernel
theorem j_Office_wire : mz_t 4 17 = 21 ∧ (0 ≤ ((4 : Nat) : Int) + 17) ∧ mz_t 11 10 = 21 ∧ (0 ≤ ((11 : Nat) : Int) + 10) ∧ mz_t 18 5 = 23 ∧ (0 ≤ ((18 : Nat) : Int) + 5) := by decide +kernel
theorem j_Office_isBoard_1 : mz_t 1 12 = 13 ∧ (0 ≤ ((1 : Nat) : Int) + 12) := by decide +kernel
theorem j_Office_isBoard_6 : mz_t 6 7 = 13 ∧ (0 ≤ ((6 : Nat) : Int) + 7) := by decide +kernel
theorem j_Office_isBoard_10 : mz_t 10 4 = 14 ∧ (0 ≤ ((10 : Nat) : Int) + 4) := by decide +kernel
theorem j_Office_isBoard : mz_t 1 12 = 13 ∧ (0 ≤ ((1 : Nat) : Int) + 12) ∧ mz_t 6 7 = 13 ∧ (0 ≤ ((6 : Nat) : Int) + 7) ∧ mz_t 10 4 = 14 ∧ (0 ≤ ((10 : Nat) : Int) + 4) := by decide +kernel
theorem j_Office_isFromJack_1 : mz_t 1 9 = 10 ∧ (0 ≤ ((1 : Nat) : Int) + 9) := by decide +kernel
theorem j_Office_isFromJack_7 : mz_t 7 15 = 22 ∧ (0 ≤ ((7 : Nat) : Int) + 15) := by decide +kernel
theorem j_Office_isFromJack_13 : mz_t 13 13 = 26 ∧ (0 ≤ ((13 : Nat) : Int) + 13) := by decide +kernel
theorem j_Office_isFromJack_19 : mz_t 19 7 = 26 ∧ (0 ≤ ((19 : Nat) : Int) + 7) := by decide +kernel
theorem j_Office_isFromJack_23 : mz_t 23 4 = 27 ∧ (0 ≤ ((23 : Nat) : Int) + 4) := by decide +kernel
theorem j_Office_isFromJack : mz_t 1 9 = 10 ∧ (0 ≤ ((1 : Nat) : Int) + 9) ∧ mz_t 7 15 = 22 ∧ (0 ≤ ((7 : Nat) : Int) + 15) ∧ mz_t 13 13 = 26 ∧ (0 ≤ ((13 : Nat) : Int) + 13) ∧ mz_t 19 7 = 26 ∧ (0 ≤ ((19 : Nat) : Int) + 7) ∧ mz_t 23 4 = 27 ∧ (0 ≤ ((23 : Nat) : Int) + 4) := by decide +kernel
theorem j_Office_isToJack_4 : mz_t 4 39 = 43 ∧ (0 ≤ ((4 : Nat) : Int) + 39) := by decide +kernel
theorem j_Office_isToJack_10 : mz_t 10 9 = 19 ∧ (0 ≤ ((10 : Nat) : Int) + 9) := by decide +kernel
theorem j_Office_isToJack_16 : mz_t 16 27 = 43 ∧ (0 ≤ ((16 : Nat) : Int) + 27) := by decide +kernel
theorem j_Office_isToJack_22 : mz_t 22 9 = 31 ∧ (0 ≤ ((22 : Nat) : Int) + 9) := by decide +kernel
theorem j_Office_isToJack_28 : mz_t 28 15 = 43 ∧ (0 ≤ ((28 : Nat) : Int) + 15) := by decide +kernel
theorem j_Office_isToJack_34 : mz_t 34 13 = 47 ∧ (0 ≤ ((34 : Nat) : Int) + 13) := by decide +kernel
theorem j_Office_isToJack_40 : mz_t 40 7 = 47 ∧ (0 ≤ ((40 : Nat) : Int) + 7) := by decide +kernel
theorem j_Office_isToJack_44 : mz_t 44 4 = 48 ∧ (0 ≤ ((44 : Nat) : Int) + 4) := by decide +kernel
theorem j_Office_isToJack : mz_t 4 39 = 43 ∧ (0 ≤ ((4 : Nat) : Int) + 39) ∧ mz_t 10 9 = 19 ∧ (0 ≤ ((10 : Nat) : Int) + 9) ∧ mz_t 16 27 = 43 ∧ (0 ≤ ((16 : Nat) : Int) + 27) ∧ mz_t 22 9 = 31 ∧ (0 ≤ ((22 : Nat) : Int) + 9) ∧ mz_t 28 15 = 43 ∧ (0 ≤ ((28 : Nat) : Int) + 15) ∧ mz_t 34 13 = 47 ∧ (0 ≤ ((34 : Nat) : Int) + 13) ∧ mz_t 40 7 = 47 ∧ (0 ≤ ((40 : Nat) : Int) + 7) ∧ mz_t 44 4 = 48 ∧ (0 ≤ ((44 : Nat) : Int) + 4) := by decide +kernel
theorem j_Office_isColumn_1 : mz_t 1 13 = 14 ∧ (0 ≤ ((1 : Nat) : Int) + 13) := by decide +kernel
theorem j_Office_isColumn_7 : mz_t 7 7 = 14 ∧ (0 ≤ ((7 : Nat) : Int) + 7) := by decide +kernel
theorem j_Office_isColumn_11 : mz_t 11 4 = 15 ∧ (0 ≤ ((11 : Nat) : Int) + 4) := by decide +kernel
theorem j_Office_isColumn : mz_t 1 13 = 14 ∧ (0 ≤ ((1 : Nat) : Int) + 13) ∧ mz_t 7 7 = 14 ∧ (0 ≤ ((7 : Nat) : Int) + 7) ∧ mz_t 11 4 = 15 ∧ (0 ≤ ((11 : Nat) : Int) + 4) := by decide +kernel
theorem j_Board_addWire_6 : mz_t 6 12 = 18 ∧ (0 ≤ ((6 : Nat) : Int) + 12) := by decide +kernel
theorem j_Board_addWire_15 : mz_t 15 5 = 20 ∧ (0 ≤ ((15 : Nat) : Int) + 5) := by decide +kernel
theorem j_Board_addWire : mz_t 6 12 = 18 ∧ (0 ≤ ((6 : Nat) : Int) + 12) ∧ mz_t 15 5 = 20 ∧ (0 ≤ ((15 : Nat) : Int) + 5) := by decide +kernel
theorem j_Board_hasWire_7 : mz_t 7 31 = 38 ∧ (0 ≤ ((7 : Nat) : Int) + 31) := by decide +kernel
theorem j_Board_hasWire_17 : mz_t 17 15 = 32 ∧ (0 ≤ ((17 : Nat) : Int) + 15) := by decide +kernel
theorem j_Board_hasWire_27 : mz_t 27 5 = 32 ∧ (0 ≤ ((27 : Nat) : Int) + 5) := by decide +kernel
theorem j_Board_hasWire_35 : mz_t 35 (-33) = 2 ∧ (0 ≤ ((35 : Nat) : Int) + (-33)) := by decide +kernel
theorem j_Board_hasWire : mz_t 7 31 = 38 ∧ (0 ≤ ((7 : Nat) : Int) + 31) ∧ mz_t 17 15 = 32 ∧ (0 ≤ ((17 : Nat) : Int) + 15) ∧ mz_t 27 5 = 32 ∧ (0 ≤ ((27 : Nat) : Int) + 5) ∧ mz_t 35 (-33) = 2 ∧ (0 ≤ ((35 : Nat) : Int) + (-33)) := by decide +kernel
theorem j_Office_strip_4 : mz_t 4 5 = 9 ∧ (0 ≤ ((4 : Nat) : Int) + 5) := by decide +kernel
theorem j_Office_strip : mz_t 4 5 = 9 ∧ (0 ≤ ((4 : Nat) : Int) + 5) := by decide +kernel
theorem j_Office_level_4 : mz_t 4 19 = 23 ∧ (0 ≤ ((4 : Nat) : Int) + 19) := by decide +kernel
theorem j_Office_level_11 : mz_t 11 12 = 23 ∧ (0 ≤ ((11 : Nat) : Int) + 12) := by decide +kernel
theorem j_Office_level_15 : mz_t 15 8 = 23 ∧ (0 ≤ ((15 : Nat) : Int) + 8) := by decide +kernel
theorem j_Office_level_20 : mz_t 20 5 = 25 ∧ (0 ≤ ((20 : Nat) : Int) + 5) := by decide +kernel
theorem j_Office_level : mz_t 4 19 = 23 ∧ (0 ≤ ((4 : Nat) : Int) + 19) ∧ mz_t 11 12 = 23 ∧ (0 ≤ ((11 : Nat) : Int) + 12) ∧ mz_t 15 8 = 23 ∧ (0 ≤ ((15 : Nat) : Int) + 8) ∧ mz_t 20 5 = 25 ∧ (0 ≤ ((20 : Nat) : Int) + 5) := by decide +kernel
theorem j_Office_isCounter_1 : mz_t 1 12 = 13 ∧ (0 ≤ ((1 : Nat) : Int) + 12) := by decide +kernel
theorem j_Office_isCounter_6 : mz_t 6 7 = 13 ∧ (0 ≤ ((6 : Nat) : Int) + 7) := by decide +kernel
theorem j_Office_isCounter_10 : mz_t 10 4 = 14 ∧ (0 ≤ ((10 : Nat) : Int) + 4) := by decide +kernel
theorem j_Office_isCounter : mz_t 1 12 = 13 ∧ (0 ≤ ((1 : Nat) : Int) + 12) ∧ mz_t 6 7 = 13 ∧ (0 ≤ ((6 : Nat) : Int) + 7) ∧ mz_t 10 4 = 14 ∧ (0 ≤ ((10 : Nat) : Int) + 4) := by decide +kernel
theorem j_Office_cut_5 : mz_t 5 16 = 21 ∧ (0 ≤ ((5 : Nat) : Int) + 16) := by decide +kernel
theorem j_Office_cut_18 : mz_t 18 5 = 23 ∧ (0 ≤ ((18 : Nat) : Int) + 5) := by decide +kernel
theorem j_Office_cut : mz_t 5 16 = 21 ∧ (0 ≤ ((5 : Nat) : Int) + 16) ∧ mz_t 18 5 = 23 ∧ (0 ≤ ((18 : Nat) : Int) + 5) := by decide +kernel
theorem j_Office_areTwoDecks_4 : mz_t 4 19 = 23 ∧ (0 ≤ ((4 : Nat) : Int) + 19) := by decide +kernel
theorem j_Office_areTwoDecks_11 : mz_t 11 12 = 23 ∧ (0 ≤ ((11 : Nat) : Int) + 12) := by decide +kernel
theorem j_Office_areTwoDecks_16 : mz_t 16 7 = 23 ∧ (0 ≤ ((16 : Nat) : Int) + 7) := by decide +kernel
theorem j_Office_areTwoDecks_20 : mz_t 20 4 = 24 ∧ (0 ≤ ((20 : Nat) : Int) + 4) := by decide +kernel
theorem j_Office_areTwoDecks : mz_t 4 19 = 23 ∧ (0 ≤ ((4 : Nat) : Int) + 19) ∧ mz_t 11 12 = 23 ∧ (0 ≤ ((11 : Nat) : Int) + 12) ∧ mz_t 16 7 = 23 ∧ (0 ≤ ((16 : Nat) : Int) + 7) ∧ mz_t 20 4 = 24 ∧ (0 ≤ ((20 : Nat) : Int) + 4) := by decide +kernel
theorem j_Deck_moveFirst_12 : mz_t 12 20 = 32 ∧ (0 ≤ ((12 : Nat) : Int) + 20) := by decide +kernel
theorem j_Deck_moveFirst_29 : mz_t 29 (-20) = 9 ∧ (0 ≤ ((29 : Nat) : Int) + (-20)) := by decide +kernel
theorem j_Deck_moveFirst_41 : mz_t 41 25 = 66 ∧ (0 ≤ ((41 : Nat) : Int) + 25) := by decide +kernel
theorem j_Deck_moveFirst_63 : mz_t 63 (-28) = 35 ∧ (0 ≤ ((63 : Nat) : Int) + (-28)) := by decide +kernel
theorem j_Deck_moveFirst : mz_t 12 20 = 32 ∧ (0 ≤ ((12 : Nat) : Int) + 20) ∧ mz_t 29 (-20) = 9 ∧ (0 ≤ ((29 : Nat) : Int) + (-20)) ∧ mz_t 41 25 = 66 ∧ (0 ≤ ((41 : Nat) : Int) + 25) ∧ mz_t 63 (-28) = 35 ∧ (0 ≤ ((63 : Nat) : Int) + (-28)) := by decide +kernel
theorem j_Office_count_4 : mz_t 4 13 = 17 ∧ (0 ≤ ((4 : Nat) : Int) + 13) := by decide +kernel
theorem j_Office_count_24 : mz_t 24 16 = 40 ∧ (0 ≤ ((24 : Nat) : Int) + 16) := by decide +kernel
theorem j_Office_count : mz_t 4 13 = 17 ∧ (0 ≤ ((4 : Nat) : Int) + 13) ∧ mz_t 24 16 = 40 ∧ (0 ≤ ((24 : Nat) : Int) + 16) := by decide +kernel
theorem j_Office_pass_4 : mz_t 4 10 = 14 ∧ (0 ≤ ((4 : Nat) : Int) + 10) := by decide +kernel
theorem j_Office_pass_11 : mz_t 11 13 = 24 ∧ (0 ≤ ((11 : Nat) : Int) + 13) := by decide +kernel
theorem j_Office_pass : mz_t 4 10 = 14 ∧ (0 ≤ ((4 : Nat) : Int) + 10) ∧ mz_t 11 13 = 24 ∧ (0 ≤ ((11 : Nat) : Int) + 13) := by decide +kernel
theorem j_Sorter_passOnce_32 : mz_t 32 51 = 83 ∧ (0 ≤ ((32 : Nat) : Int) + 51) := by decide +kernel
theorem j_Sorter_passOnce_80 : mz_t 80 (-54) = 26 ∧ (0 ≤ ((80 : Nat) : Int) + (-54)) := by decide +kernel
theorem j_Sorter_passOnce_92 : mz_t 92 23 = 115 ∧ (0 ≤ ((92 : Nat) : Int) + 23) := by decide +kernel
theorem j_Sorter_passOnce_112 : mz_t 112 (-26) = 86 ∧ (0 ≤ ((112 : Nat) : Int) + (-26)) := by decide +kernel
theorem j_Sorter_passOnce : mz_t 32 51 = 83 ∧ (0 ≤ ((32 : Nat) : Int) + 51) ∧ mz_t 80 (-54) = 26 ∧ (0 ≤ ((80 : Nat) : Int) + (-54)) ∧ mz_t 92 23 = 115 ∧ (0 ≤ ((92 : Nat) : Int) + 23) ∧ mz_t 112 (-26) = 86 ∧ (0 ≤ ((112 : Nat) : Int) + (-26)) := by decide +kernel
theorem j_Sorter_fillPockets_17 : mz_t 17 29 = 46 ∧ (0 ≤ ((17 : Nat) : Int) + 29) := by decide +kernel
theorem j_Sorter_fillPockets_43 : mz_t 43 (-32) = 11 ∧ (0 ≤ ((43 : Nat) : Int) + (-32)) := by decide +kernel
theorem j_Sorter_fillPockets : mz_t 17 29 = 46 ∧ (0 ≤ ((17 : Nat) : Int) + 29) ∧ mz_t 43 (-32) = 11 ∧ (0 ≤ ((43 : Nat) : Int) + (-32)) := by decide +kernel
theorem j_Sorter_pocketOf_8 : mz_t 8 10 = 18 ∧ (0 ≤ ((8 : Nat) : Int) + 10) := by decide +kernel
theorem j_Sorter_pocketOf_15 : mz_t 15 7 = 22 ∧ (0 ≤ ((15 : Nat) : Int) + 7) := by decide +kernel
theorem j_Sorter_pocketOf : mz_t 8 10 = 18 ∧ (0 ≤ ((8 : Nat) : Int) + 10) ∧ mz_t 15 7 = 22 ∧ (0 ≤ ((15 : Nat) : Int) + 7) := by decide +kernel
theorem j_Office_zoneOf_3 : mz_t 3 5 = 8 ∧ (0 ≤ ((3 : Nat) : Int) + 5) := by decide +kernel
theorem j_Office_zoneOf_11 : mz_t 11 5 = 16 ∧ (0 ≤ ((11 : Nat) : Int) + 5) := by decide +kernel
theorem j_Office_zoneOf_19 : mz_t 19 7 = 26 ∧ (0 ≤ ((19 : Nat) : Int) + 7) := by decide +kernel
theorem j_Office_zoneOf_23 : mz_t 23 4 = 27 ∧ (0 ≤ ((23 : Nat) : Int) + 4) := by decide +kernel
theorem j_Office_zoneOf : mz_t 3 5 = 8 ∧ (0 ≤ ((3 : Nat) : Int) + 5) ∧ mz_t 11 5 = 16 ∧ (0 ≤ ((11 : Nat) : Int) + 5) ∧ mz_t 19 7 = 26 ∧ (0 ≤ ((19 : Nat) : Int) + 7) ∧ mz_t 23 4 = 27 ∧ (0 ≤ ((23 : Nat) : Int) + 4) := by decide +kernel
theorem j_Office_digitOf_3 : mz_t 3 10 = 13 ∧ (0 ≤ ((3 : Nat) : Int) + 10) := by decide +kernel
theorem j_Office_digitOf_16 : mz_t 16 10 = 26 ∧ (0 ≤ ((16 : Nat) : Int) + 10) := by decide +kernel
theorem j_Office_digitOf_29 : mz_t 29 10 = 39 ∧ (0 ≤ ((29 : Nat) : Int) + 10) := by decide +kernel
theorem j_Office_digitOf_42 : mz_t 42 7 = 49 ∧ (0 ≤ ((42 : Nat) : Int) + 7) := by decide +kernel
theorem j_Office_digitOf_46 : mz_t 46 7 = 53 ∧ (0 ≤ ((46 : Nat) : Int) + 7) := by decide +kernel
theorem j_Office_digitOf : mz_t 3 10 = 13 ∧ (0 ≤ ((3 : Nat) : Int) + 10) ∧ mz_t 16 10 = 26 ∧ (0 ≤ ((16 : Nat) : Int) + 10) ∧ mz_t 29 10 = 39 ∧ (0 ≤ ((29 : Nat) : Int) + 10) ∧ mz_t 42 7 = 49 ∧ (0 ≤ ((42 : Nat) : Int) + 7) ∧ mz_t 46 7 = 53 ∧ (0 ≤ ((46 : Nat) : Int) + 7) := by decide +kernel
theorem j_Sorter_stackPockets_9 : mz_t 9 37 = 46 ∧ (0 ≤ ((9 : Nat) : Int) + 37) := by decide +kernel
theorem j_Sorter_stackPockets_22 : mz_t 22 6 = 28 ∧ (0 ≤ ((22 : Nat) : Int) + 6) := by decide +kernel
theorem j_Sorter_stackPockets_43 : mz_t 43 (-37) = 6 ∧ (0 ≤ ((43 : Nat) : Int) + (-37)) := by decide +kernel
theorem j_Sorter_stackPockets : mz_t 9 37 = 46 ∧ (0 ≤ ((9 : Nat) : Int) + 37) ∧ mz_t 22 6 = 28 ∧ (0 ≤ ((22 : Nat) : Int) + 6) ∧ mz_t 43 (-37) = 6 ∧ (0 ≤ ((43 : Nat) : Int) + (-37)) := by decide +kernel
theorem j_Office_sort_4 : mz_t 4 11 = 15 ∧ (0 ≤ ((4 : Nat) : Int) + 11) := by decide +kernel
theorem j_Office_sort_12 : mz_t 12 13 = 25 ∧ (0 ≤ ((12 : Nat) : Int) + 13) := by decide +kernel
theorem j_Office_sort : mz_t 4 11 = 15 ∧ (0 ≤ ((4 : Nat) : Int) + 11) ∧ mz_t 12 13 = 25 ∧ (0 ≤ ((12 : Nat) : Int) + 13) := by decide +kernel
theorem j_Office_isField_1 : mz_t 1 18 = 19 ∧ (0 ≤ ((1 : Nat) : Int) + 18) := by decide +kernel
theorem j_Office_isField_6 : mz_t 6 13 = 19 ∧ (0 ≤ ((6 : Nat) : Int) + 13) := by decide +kernel
theorem j_Office_isField_12 : mz_t 12 7 = 19 ∧ (0 ≤ ((12 : Nat) : Int) + 7) := by decide +kernel
theorem j_Office_isField_16 : mz_t 16 4 = 20 ∧ (0 ≤ ((16 : Nat) : Int) + 4) := by decide +kernel
theorem j_Office_isField : mz_t 1 18 = 19 ∧ (0 ≤ ((1 : Nat) : Int) + 18) ∧ mz_t 6 13 = 19 ∧ (0 ≤ ((6 : Nat) : Int) + 13) ∧ mz_t 12 7 = 19 ∧ (0 ≤ ((12 : Nat) : Int) + 7) ∧ mz_t 16 4 = 20 ∧ (0 ≤ ((16 : Nat) : Int) + 4) := by decide +kernel
theorem j_Sorter_sortOn_6 : mz_t 6 5 = 11 ∧ (0 ≤ ((6 : Nat) : Int) + 5) := by decide +kernel
theorem j_Sorter_sortOn_23 : mz_t 23 36 = 59 ∧ (0 ≤ ((23 : Nat) : Int) + 36) := by decide +kernel
theorem j_Sorter_sortOn_41 : mz_t 41 12 = 53 ∧ (0 ≤ ((41 : Nat) : Int) + 12) := by decide +kernel
theorem j_Sorter_sortOn_56 : mz_t 56 (-36) = 20 ∧ (0 ≤ ((56 : Nat) : Int) + (-36)) := by decide +kernel
theorem j_Sorter_sortOn : mz_t 6 5 = 11 ∧ (0 ≤ ((6 : Nat) : Int) + 5) ∧ mz_t 23 36 = 59 ∧ (0 ≤ ((23 : Nat) : Int) + 36) ∧ mz_t 41 12 = 53 ∧ (0 ≤ ((41 : Nat) : Int) + 12) ∧ mz_t 56 (-36) = 20 ∧ (0 ≤ ((56 : Nat) : Int) + (-36)) := by decide +kernel
theorem j_Deck_isSorted_7 : mz_t 7 33 = 40 ∧ (0 ≤ ((7 : Nat) : Int) + 33) := by decide +kernel
theorem j_Deck_isSorted_29 : mz_t 29 5 = 34 ∧ (0 ≤ ((29 : Nat) : Int) + 5) := by decide +kernel
theorem j_Deck_isSorted_37 : mz_t 37 (-35) = 2 ∧ (0 ≤ ((37 : Nat) : Int) + (-35)) := by decide +kernel
theorem j_Deck_isSorted : mz_t 7 33 = 40 ∧ (0 ≤ ((7 : Nat) : Int) + 33) ∧ mz_t 29 5 = 34 ∧ (0 ≤ ((29 : Nat) : Int) + 5) ∧ mz_t 37 (-35) = 2 ∧ (0 ≤ ((37 : Nat) : Int) + (-35)) := by decide +kernel
theorem j_Card_compareOn_6 : mz_t 6 50 = 56 ∧ (0 ≤ ((6 : Nat) : Int) + 50) := by decide +kernel
theorem j_Card_compareOn_23 : mz_t 23 27 = 50 ∧ (0 ≤ ((23 : Nat) : Int) + 27) := by decide +kernel
theorem j_Card_compareOn_53 : mz_t 53 (-50) = 3 ∧ (0 ≤ ((53 : Nat) : Int) + (-50)) := by decide +kernel
theorem j_Card_compareOn : mz_t 6 50 = 56 ∧ (0 ≤ ((6 : Nat) : Int) + 50) ∧ mz_t 23 27 = 50 ∧ (0 ≤ ((23 : Nat) : Int) + 27) ∧ mz_t 53 (-50) = 3 ∧ (0 ≤ ((53 : Nat) : Int) + (-50)) := by decide +kernel
theorem j_Integer_compare_2 : mz_t 2 7 = 9 ∧ (0 ≤ ((2 : Nat) : Int) + 7) := by decide +kernel
theorem j_Integer_compare_6 : mz_t 6 13 = 19 ∧ (0 ≤ ((6 : Nat) : Int) + 13) := by decide +kernel
theorem j_Integer_compare_11 : mz_t 11 7 = 18 ∧ (0 ≤ ((11 : Nat) : Int) + 7) := by decide +kernel
theorem j_Integer_compare_15 : mz_t 15 4 = 19 ∧ (0 ≤ ((15 : Nat) : Int) + 4) := by decide +kernel
theorem j_Integer_compare : mz_t 2 7 = 9 ∧ (0 ≤ ((2 : Nat) : Int) + 7) ∧ mz_t 6 13 = 19 ∧ (0 ≤ ((6 : Nat) : Int) + 13) ∧ mz_t 11 7 = 18 ∧ (0 ≤ ((11 : Nat) : Int) + 7) ∧ mz_t 15 4 = 19 ∧ (0 ≤ ((15 : Nat) : Int) + 4) := by decide +kernel
theorem j_Deck_hasZoneIn_7 : mz_t 7 28 = 35 ∧ (0 ≤ ((7 : Nat) : Int) + 28) := by decide +kernel
theorem j_Deck_hasZoneIn_24 : mz_t 24 5 = 29 ∧ (0 ≤ ((24 : Nat) : Int) + 5) := by decide +kernel
theorem j_Deck_hasZoneIn_32 : mz_t 32 (-30) = 2 ∧ (0 ≤ ((32 : Nat) : Int) + (-30)) := by decide +kernel
theorem j_Deck_hasZoneIn : mz_t 7 28 = 35 ∧ (0 ≤ ((7 : Nat) : Int) + 28) ∧ mz_t 24 5 = 29 ∧ (0 ≤ ((24 : Nat) : Int) + 5) ∧ mz_t 32 (-30) = 2 ∧ (0 ≤ ((32 : Nat) : Int) + (-30)) := by decide +kernel
theorem j_Office_merge_5 : mz_t 5 12 = 17 ∧ (0 ≤ ((5 : Nat) : Int) + 12) := by decide +kernel
theorem j_Office_merge_14 : mz_t 14 13 = 27 ∧ (0 ≤ ((14 : Nat) : Int) + 13) := by decide +kernel
theorem j_Office_merge_39 : mz_t 39 18 = 57 ∧ (0 ≤ ((39 : Nat) : Int) + 18) := by decide +kernel
theorem j_Office_merge_54 : mz_t 54 13 = 67 ∧ (0 ≤ ((54 : Nat) : Int) + 13) := by decide +kernel
theorem j_Office_merge : mz_t 5 12 = 17 ∧ (0 ≤ ((5 : Nat) : Int) + 12) ∧ mz_t 14 13 = 27 ∧ (0 ≤ ((14 : Nat) : Int) + 13) ∧ mz_t 39 18 = 57 ∧ (0 ≤ ((39 : Nat) : Int) + 18) ∧ mz_t 54 13 = 67 ∧ (0 ≤ ((54 : Nat) : Int) + 13) := by decide +kernel
theorem j_Collator_mergeOn_37 : mz_t 37 59 = 96 ∧ (0 ≤ ((37 : Nat) : Int) + 59) := by decide +kernel
theorem j_Collator_mergeOn_52 : mz_t 52 22 = 74 ∧ (0 ≤ ((52 : Nat) : Int) + 22) := by decide +kernel
theorem j_Collator_mergeOn_71 : mz_t 71 19 = 90 ∧ (0 ≤ ((71 : Nat) : Int) + 19) := by decide +kernel
theorem j_Collator_mergeOn_93 : mz_t 93 (-60) = 33 ∧ (0 ≤ ((93 : Nat) : Int) + (-60)) := by decide +kernel
theorem j_Collator_mergeOn : mz_t 37 59 = 96 ∧ (0 ≤ ((37 : Nat) : Int) + 59) ∧ mz_t 52 22 = 74 ∧ (0 ≤ ((52 : Nat) : Int) + 22) ∧ mz_t 71 19 = 90 ∧ (0 ≤ ((71 : Nat) : Int) + 19) ∧ mz_t 93 (-60) = 33 ∧ (0 ≤ ((93 : Nat) : Int) + (-60)) := by decide +kernel
theorem j_Collator_orderOf_5 : mz_t 5 5 = 10 ∧ (0 ≤ ((5 : Nat) : Int) + 5) := by decide +kernel
theorem j_Collator_orderOf_15 : mz_t 15 5 = 20 ∧ (0 ≤ ((15 : Nat) : Int) + 5) := by decide +kernel
theorem j_Collator_orderOf : mz_t 5 5 = 10 ∧ (0 ≤ ((5 : Nat) : Int) + 5) ∧ mz_t 15 5 = 20 ∧ (0 ≤ ((15 : Nat) : Int) + 5) := by decide +kernel
theorem j_Deck_takeAllOf_7 : mz_t 7 21 = 28 ∧ (0 ≤ ((7 : Nat) : Int) + 21) := by decide +kernel
theorem j_Deck_takeAllOf_25 : mz_t 25 (-23) = 2 ∧ (0 ≤ ((25 : Nat) : Int) + (-23)) := by decide +kernel
theorem j_Deck_takeAllOf : mz_t 7 21 = 28 ∧ (0 ≤ ((7 : Nat) : Int) + 21) ∧ mz_t 25 (-23) = 2 ∧ (0 ≤ ((25 : Nat) : Int) + (-23)) := by decide +kernel
theorem j_Office_match_5 : mz_t 5 29 = 34 ∧ (0 ≤ ((5 : Nat) : Int) + 29) := by decide +kernel
theorem j_Office_match_13 : mz_t 13 21 = 34 ∧ (0 ≤ ((13 : Nat) : Int) + 21) := by decide +kernel
theorem j_Office_match_21 : mz_t 21 13 = 34 ∧ (0 ≤ ((21 : Nat) : Int) + 13) := by decide +kernel
theorem j_Office_match_31 : mz_t 31 13 = 44 ∧ (0 ≤ ((31 : Nat) : Int) + 13) := by decide +kernel
theorem j_Office_match_57 : mz_t 57 19 = 76 ∧ (0 ≤ ((57 : Nat) : Int) + 19) := by decide +kernel
theorem j_Office_match_73 : mz_t 73 13 = 86 ∧ (0 ≤ ((73 : Nat) : Int) + 13) := by decide +kernel
theorem j_Office_match : mz_t 5 29 = 34 ∧ (0 ≤ ((5 : Nat) : Int) + 29) ∧ mz_t 13 21 = 34 ∧ (0 ≤ ((13 : Nat) : Int) + 21) ∧ mz_t 21 13 = 34 ∧ (0 ≤ ((21 : Nat) : Int) + 13) ∧ mz_t 31 13 = 44 ∧ (0 ≤ ((31 : Nat) : Int) + 13) ∧ mz_t 57 19 = 76 ∧ (0 ≤ ((57 : Nat) : Int) + 19) ∧ mz_t 73 13 = 86 ∧ (0 ≤ ((73 : Nat) : Int) + 13) := by decide +kernel
theorem j_Collator_matchOn_33 : mz_t 33 138 = 171 ∧ (0 ≤ ((33 : Nat) : Int) + 138) := by decide +kernel
theorem j_Collator_matchOn_53 : mz_t 53 53 = 106 ∧ (0 ≤ ((53 : Nat) : Int) + 53) := by decide +kernel
theorem j_Collator_matchOn_58 : mz_t 58 12 = 70 ∧ (0 ≤ ((58 : Nat) : Int) + 12) := by decide +kernel
theorem j_Collator_matchOn_67 : mz_t 67 5 = 72 ∧ (0 ≤ ((67 : Nat) : Int) + 5) := by decide +kernel
theorem j_Collator_matchOn_76 : mz_t 76 7 = 83 ∧ (0 ≤ ((76 : Nat) : Int) + 7) := by decide +kernel
theorem j_Collator_matchOn_80 : mz_t 80 7 = 87 ∧ (0 ≤ ((80 : Nat) : Int) + 7) := by decide +kernel
theorem j_Collator_matchOn_103 : mz_t 103 62 = 165 ∧ (0 ≤ ((103 : Nat) : Int) + 62) := by decide +kernel
theorem j_Collator_matchOn_108 : mz_t 108 25 = 133 ∧ (0 ≤ ((108 : Nat) : Int) + 25) := by decide +kernel
theorem j_Collator_matchOn_126 : mz_t 126 7 = 133 ∧ (0 ≤ ((126 : Nat) : Int) + 7) := by decide +kernel
theorem j_Collator_matchOn_130 : mz_t 130 4 = 134 ∧ (0 ≤ ((130 : Nat) : Int) + 4) := by decide +kernel
theorem j_Collator_matchOn_138 : mz_t 138 7 = 145 ∧ (0 ≤ ((138 : Nat) : Int) + 7) := by decide +kernel
theorem j_Collator_matchOn_142 : mz_t 142 7 = 149 ∧ (0 ≤ ((142 : Nat) : Int) + 7) := by decide +kernel
theorem j_Collator_matchOn_168 : mz_t 168 (-139) = 29 ∧ (0 ≤ ((168 : Nat) : Int) + (-139)) := by decide +kernel
theorem j_Collator_matchOn : mz_t 33 138 = 171 ∧ (0 ≤ ((33 : Nat) : Int) + 138) ∧ mz_t 53 53 = 106 ∧ (0 ≤ ((53 : Nat) : Int) + 53) ∧ mz_t 58 12 = 70 ∧ (0 ≤ ((58 : Nat) : Int) + 12) ∧ mz_t 67 5 = 72 ∧ (0 ≤ ((67 : Nat) : Int) + 5) ∧ mz_t 76 7 = 83 ∧ (0 ≤ ((76 : Nat) : Int) + 7) ∧ mz_t 80 7 = 87 ∧ (0 ≤ ((80 : Nat) : Int) + 7) ∧ mz_t 103 62 = 165 ∧ (0 ≤ ((103 : Nat) : Int) + 62) ∧ mz_t 108 25 = 133 ∧ (0 ≤ ((108 : Nat) : Int) + 25) ∧ mz_t 126 7 = 133 ∧ (0 ≤ ((126 : Nat) : Int) + 7) ∧ mz_t 130 4 = 134 ∧ (0 ≤ ((130 : Nat) : Int) + 4) ∧ mz_t 138 7 = 145 ∧ (0 ≤ ((138 : Nat) : Int) + 7) ∧ mz_t 142 7 = 149 ∧ (0 ≤ ((142 : Nat) : Int) + 7) ∧ mz_t 168 (-139) = 29 ∧ (0 ≤ ((168 : Nat) : Int) + (-139)) := by decide +kernel
theorem j_Office_reproduce_4 : mz_t 4 11 = 15 ∧ (0 ≤ ((4 : Nat) : Int) + 11) := by decide +kernel
theorem j_Office_reproduce_12 : mz_t 12 13 = 25 ∧ (0 ≤ ((12 : Nat) : Int) + 13) := by decide +kernel
theorem j_Office_reproduce : mz_t 4 11 = 15 ∧ (0 ≤ ((4 : Nat) : Int) + 11) ∧ mz_t 12 13 = 25 ∧ (0 ≤ ((12 : Nat) : Int) + 13) := by decide +kernel
theorem j_Reproducer_copyDeck_9 : mz_t 9 66 = 75 ∧ (0 ≤ ((9 : Nat) : Int) + 66) := by decide +kernel
theorem j_Reproducer_copyDeck_33 : mz_t 33 12 = 45 ∧ (0 ≤ ((33 : Nat) : Int) + 12) := by decide +kernel
theorem j_Reproducer_copyDeck_49 : mz_t 49 12 = 61 ∧ (0 ≤ ((49 : Nat) : Int) + 12) := by decide +kernel
theorem j_Reproducer_copyDeck_72 : mz_t 72 (-69) = 3 ∧ (0 ≤ ((72 : Nat) : Int) + (-69)) := by decide +kernel
theorem j_Reproducer_copyDeck : mz_t 9 66 = 75 ∧ (0 ≤ ((9 : Nat) : Int) + 66) ∧ mz_t 33 12 = 45 ∧ (0 ≤ ((33 : Nat) : Int) + 12) ∧ mz_t 49 12 = 61 ∧ (0 ≤ ((49 : Nat) : Int) + 12) ∧ mz_t 72 (-69) = 3 ∧ (0 ≤ ((72 : Nat) : Int) + (-69)) := by decide +kernel
theorem j_Board_bringFromCard_11 : mz_t 11 46 = 57 ∧ (0 ≤ ((11 : Nat) : Int) + 46) := by decide +kernel
theorem j_Board_bringFromCard_19 : mz_t 19 32 = 51 ∧ (0 ≤ ((19 : Nat) : Int) + 32) := by decide +kernel
theorem j_Board_bringFromCard_32 : mz_t 32 19 = 51 ∧ (0 ≤ ((32 : Nat) : Int) + 19) := by decide +kernel
theorem j_Board_bringFromCard_54 : mz_t 54 (-48) = 6 ∧ (0 ≤ ((54 : Nat) : Int) + (-48)) := by decide +kernel
theorem j_Board_bringFromCard : mz_t 11 46 = 57 ∧ (0 ≤ ((11 : Nat) : Int) + 46) ∧ mz_t 19 32 = 51 ∧ (0 ≤ ((19 : Nat) : Int) + 32) ∧ mz_t 32 19 = 51 ∧ (0 ≤ ((32 : Nat) : Int) + 19) ∧ mz_t 54 (-48) = 6 ∧ (0 ≤ ((54 : Nat) : Int) + (-48)) := by decide +kernel
theorem j_Board_isFromExit_8 : mz_t 8 7 = 15 ∧ (0 ≤ ((8 : Nat) : Int) + 7) := by decide +kernel
theorem j_Board_isFromExit_12 : mz_t 12 4 = 16 ∧ (0 ≤ ((12 : Nat) : Int) + 4) := by decide +kernel
theorem j_Board_isFromExit : mz_t 8 7 = 15 ∧ (0 ≤ ((8 : Nat) : Int) + 7) ∧ mz_t 12 4 = 16 ∧ (0 ≤ ((12 : Nat) : Int) + 4) := by decide +kernel
theorem j_Jacks_hasJack_5 : mz_t 5 21 = 26 ∧ (0 ≤ ((5 : Nat) : Int) + 21) := by decide +kernel
theorem j_Jacks_hasJack_19 : mz_t 19 7 = 26 ∧ (0 ≤ ((19 : Nat) : Int) + 7) := by decide +kernel
theorem j_Jacks_hasJack_23 : mz_t 23 4 = 27 ∧ (0 ≤ ((23 : Nat) : Int) + 4) := by decide +kernel
theorem j_Jacks_hasJack : mz_t 5 21 = 26 ∧ (0 ≤ ((5 : Nat) : Int) + 21) ∧ mz_t 19 7 = 26 ∧ (0 ≤ ((19 : Nat) : Int) + 7) ∧ mz_t 23 4 = 27 ∧ (0 ≤ ((23 : Nat) : Int) + 4) := by decide +kernel
theorem j_Board_signFrom_8 : mz_t 8 17 = 25 ∧ (0 ≤ ((8 : Nat) : Int) + 17) := by decide +kernel
theorem j_Board_signFrom_22 : mz_t 22 15 = 37 ∧ (0 ≤ ((22 : Nat) : Int) + 15) := by decide +kernel
theorem j_Board_signFrom : mz_t 8 17 = 25 ∧ (0 ≤ ((8 : Nat) : Int) + 17) ∧ mz_t 22 15 = 37 ∧ (0 ≤ ((22 : Nat) : Int) + 15) := by decide +kernel
theorem j_Jacks_bring_14 : mz_t 14 18 = 32 ∧ (0 ≤ ((14 : Nat) : Int) + 18) := by decide +kernel
theorem j_Jacks_bring_24 : mz_t 24 8 = 32 ∧ (0 ≤ ((24 : Nat) : Int) + 8) := by decide +kernel
theorem j_Jacks_bring : mz_t 14 18 = 32 ∧ (0 ≤ ((14 : Nat) : Int) + 18) ∧ mz_t 24 8 = 32 ∧ (0 ≤ ((24 : Nat) : Int) + 8) := by decide +kernel
theorem j_Reproducer_newCard_13 : mz_t 13 23 = 36 ∧ (0 ≤ ((13 : Nat) : Int) + 23) := by decide +kernel
theorem j_Reproducer_newCard_33 : mz_t 33 (-23) = 10 ∧ (0 ≤ ((33 : Nat) : Int) + (-23)) := by decide +kernel
theorem j_Reproducer_newCard : mz_t 13 23 = 36 ∧ (0 ≤ ((13 : Nat) : Int) + 23) ∧ mz_t 33 (-23) = 10 ∧ (0 ≤ ((33 : Nat) : Int) + (-23)) := by decide +kernel
theorem j_Jacks_signOrBlank_7 : mz_t 7 8 = 15 ∧ (0 ≤ ((7 : Nat) : Int) + 8) := by decide +kernel
theorem j_Jacks_signOrBlank_12 : mz_t 12 9 = 21 ∧ (0 ≤ ((12 : Nat) : Int) + 9) := by decide +kernel
theorem j_Jacks_signOrBlank : mz_t 7 8 = 15 ∧ (0 ≤ ((7 : Nat) : Int) + 8) ∧ mz_t 12 9 = 21 ∧ (0 ≤ ((12 : Nat) : Int) + 9) := by decide +kernel
theorem j_Office_gang_4 : mz_t 4 17 = 21 ∧ (0 ≤ ((4 : Nat) : Int) + 17) := by decide +kernel
theorem j_Office_gang_11 : mz_t 11 10 = 21 ∧ (0 ≤ ((11 : Nat) : Int) + 10) := by decide +kernel
theorem j_Office_gang_18 : mz_t 18 13 = 31 ∧ (0 ≤ ((18 : Nat) : Int) + 13) := by decide +kernel
theorem j_Office_gang : mz_t 4 17 = 21 ∧ (0 ≤ ((4 : Nat) : Int) + 17) ∧ mz_t 11 10 = 21 ∧ (0 ≤ ((11 : Nat) : Int) + 10) ∧ mz_t 18 13 = 31 ∧ (0 ≤ ((18 : Nat) : Int) + 13) := by decide +kernel
theorem j_Reproducer_punchGangs_12 : mz_t 12 98 = 110 ∧ (0 ≤ ((12 : Nat) : Int) + 98) := by decide +kernel
theorem j_Reproducer_punchGangs_34 : mz_t 34 10 = 44 ∧ (0 ≤ ((34 : Nat) : Int) + 10) := by decide +kernel
theorem j_Reproducer_punchGangs_41 : mz_t 41 63 = 104 ∧ (0 ≤ ((41 : Nat) : Int) + 63) := by decide +kernel
theorem j_Reproducer_punchGangs_46 : mz_t 46 58 = 104 ∧ (0 ≤ ((46 : Nat) : Int) + 58) := by decide +kernel
theorem j_Reproducer_punchGangs_67 : mz_t 67 12 = 79 ∧ (0 ≤ ((67 : Nat) : Int) + 12) := by decide +kernel
theorem j_Reproducer_punchGangs_86 : mz_t 86 12 = 98 ∧ (0 ≤ ((86 : Nat) : Int) + 12) := by decide +kernel
theorem j_Reproducer_punchGangs_107 : mz_t 107 (-101) = 6 ∧ (0 ≤ ((107 : Nat) : Int) + (-101)) := by decide +kernel
theorem j_Reproducer_punchGangs : mz_t 12 98 = 110 ∧ (0 ≤ ((12 : Nat) : Int) + 98) ∧ mz_t 34 10 = 44 ∧ (0 ≤ ((34 : Nat) : Int) + 10) ∧ mz_t 41 63 = 104 ∧ (0 ≤ ((41 : Nat) : Int) + 63) ∧ mz_t 46 58 = 104 ∧ (0 ≤ ((46 : Nat) : Int) + 58) ∧ mz_t 67 12 = 79 ∧ (0 ≤ ((67 : Nat) : Int) + 12) ∧ mz_t 86 12 = 98 ∧ (0 ≤ ((86 : Nat) : Int) + 12) ∧ mz_t 107 (-101) = 6 ∧ (0 ≤ ((107 : Nat) : Int) + (-101)) := by decide +kernel
theorem j_Board_canPunch_7 : mz_t 7 49 = 56 ∧ (0 ≤ ((7 : Nat) : Int) + 49) := by decide +kernel
theorem j_Board_canPunch_15 : mz_t 15 35 = 50 ∧ (0 ≤ ((15 : Nat) : Int) + 35) := by decide +kernel
theorem j_Board_canPunch_26 : mz_t 26 24 = 50 ∧ (0 ≤ ((26 : Nat) : Int) + 24) := by decide +kernel
theorem j_Board_canPunch_45 : mz_t 45 5 = 50 ∧ (0 ≤ ((45 : Nat) : Int) + 5) := by decide +kernel
theorem j_Board_canPunch_53 : mz_t 53 (-51) = 2 ∧ (0 ≤ ((53 : Nat) : Int) + (-51)) := by decide +kernel
theorem j_Board_canPunch : mz_t 7 49 = 56 ∧ (0 ≤ ((7 : Nat) : Int) + 49) ∧ mz_t 15 35 = 50 ∧ (0 ≤ ((15 : Nat) : Int) + 35) ∧ mz_t 26 24 = 50 ∧ (0 ≤ ((26 : Nat) : Int) + 24) ∧ mz_t 45 5 = 50 ∧ (0 ≤ ((45 : Nat) : Int) + 5) ∧ mz_t 53 (-51) = 2 ∧ (0 ≤ ((53 : Nat) : Int) + (-51)) := by decide +kernel
theorem j_Card_canTake_8 : mz_t 8 13 = 21 ∧ (0 ≤ ((8 : Nat) : Int) + 13) := by decide +kernel
theorem j_Card_canTake_18 : mz_t 18 7 = 25 ∧ (0 ≤ ((18 : Nat) : Int) + 7) := by decide +kernel
theorem j_Card_canTake_22 : mz_t 22 4 = 26 ∧ (0 ≤ ((22 : Nat) : Int) + 4) := by decide +kernel
theorem j_Card_canTake : mz_t 8 13 = 21 ∧ (0 ≤ ((8 : Nat) : Int) + 13) ∧ mz_t 18 7 = 25 ∧ (0 ≤ ((18 : Nat) : Int) + 7) ∧ mz_t 22 4 = 26 ∧ (0 ≤ ((22 : Nat) : Int) + 4) := by decide +kernel
theorem j_Reproducer_punchInto_5 : mz_t 5 37 = 42 ∧ (0 ≤ ((5 : Nat) : Int) + 37) := by decide +kernel
theorem j_Reproducer_punchInto_18 : mz_t 18 18 = 36 ∧ (0 ≤ ((18 : Nat) : Int) + 18) := by decide +kernel
theorem j_Reproducer_punchInto_39 : mz_t 39 (-37) = 2 ∧ (0 ≤ ((39 : Nat) : Int) + (-37)) := by decide +kernel
theorem j_Reproducer_punchInto : mz_t 5 37 = 42 ∧ (0 ≤ ((5 : Nat) : Int) + 37) ∧ mz_t 18 18 = 36 ∧ (0 ≤ ((18 : Nat) : Int) + 18) ∧ mz_t 39 (-37) = 2 ∧ (0 ≤ ((39 : Nat) : Int) + (-37)) := by decide +kernel
theorem j_Office_multiply_4 : mz_t 4 25 = 29 ∧ (0 ≤ ((4 : Nat) : Int) + 25) := by decide +kernel
theorem j_Office_multiply_11 : mz_t 11 18 = 29 ∧ (0 ≤ ((11 : Nat) : Int) + 18) := by decide +kernel
theorem j_Office_multiply_18 : mz_t 18 11 = 29 ∧ (0 ≤ ((18 : Nat) : Int) + 11) := by decide +kernel
theorem j_Office_multiply_26 : mz_t 26 13 = 39 ∧ (0 ≤ ((26 : Nat) : Int) + 13) := by decide +kernel
theorem j_Office_multiply_45 : mz_t 45 12 = 57 ∧ (0 ≤ ((45 : Nat) : Int) + 12) := by decide +kernel
theorem j_Office_multiply_54 : mz_t 54 13 = 67 ∧ (0 ≤ ((54 : Nat) : Int) + 13) := by decide +kernel
theorem j_Office_multiply : mz_t 4 25 = 29 ∧ (0 ≤ ((4 : Nat) : Int) + 25) ∧ mz_t 11 18 = 29 ∧ (0 ≤ ((11 : Nat) : Int) + 18) ∧ mz_t 18 11 = 29 ∧ (0 ≤ ((18 : Nat) : Int) + 11) ∧ mz_t 26 13 = 39 ∧ (0 ≤ ((26 : Nat) : Int) + 13) ∧ mz_t 45 12 = 57 ∧ (0 ≤ ((45 : Nat) : Int) + 12) ∧ mz_t 54 13 = 67 ∧ (0 ≤ ((54 : Nat) : Int) + 13) := by decide +kernel
theorem j_Office_isFactorField_1 : mz_t 1 22 = 23 ∧ (0 ≤ ((1 : Nat) : Int) + 22) := by decide +kernel
theorem j_Office_isFactorField_7 : mz_t 7 16 = 23 ∧ (0 ≤ ((7 : Nat) : Int) + 16) := by decide +kernel
theorem j_Office_isFactorField_16 : mz_t 16 7 = 23 ∧ (0 ≤ ((16 : Nat) : Int) + 7) := by decide +kernel
theorem j_Office_isFactorField_20 : mz_t 20 4 = 24 ∧ (0 ≤ ((20 : Nat) : Int) + 4) := by decide +kernel
theorem j_Office_isFactorField : mz_t 1 22 = 23 ∧ (0 ≤ ((1 : Nat) : Int) + 22) ∧ mz_t 7 16 = 23 ∧ (0 ≤ ((7 : Nat) : Int) + 16) ∧ mz_t 16 7 = 23 ∧ (0 ≤ ((16 : Nat) : Int) + 7) ∧ mz_t 20 4 = 24 ∧ (0 ≤ ((20 : Nat) : Int) + 4) := by decide +kernel
theorem j_Office_haveCommonColumn_8 : mz_t 8 18 = 26 ∧ (0 ≤ ((8 : Nat) : Int) + 18) := by decide +kernel
theorem j_Office_haveCommonColumn_19 : mz_t 19 7 = 26 ∧ (0 ≤ ((19 : Nat) : Int) + 7) := by decide +kernel
theorem j_Office_haveCommonColumn_23 : mz_t 23 4 = 27 ∧ (0 ≤ ((23 : Nat) : Int) + 4) := by decide +kernel
theorem j_Office_haveCommonColumn : mz_t 8 18 = 26 ∧ (0 ≤ ((8 : Nat) : Int) + 18) ∧ mz_t 19 7 = 26 ∧ (0 ≤ ((19 : Nat) : Int) + 7) ∧ mz_t 23 4 = 27 ∧ (0 ≤ ((23 : Nat) : Int) + 4) := by decide +kernel
theorem j_Multiplier_goThrough_9 : mz_t 9 38 = 47 ∧ (0 ≤ ((9 : Nat) : Int) + 38) := by decide +kernel
theorem j_Multiplier_goThrough_28 : mz_t 28 13 = 41 ∧ (0 ≤ ((28 : Nat) : Int) + 13) := by decide +kernel
theorem j_Multiplier_goThrough_44 : mz_t 44 (-41) = 3 ∧ (0 ≤ ((44 : Nat) : Int) + (-41)) := by decide +kernel
theorem j_Multiplier_goThrough : mz_t 9 38 = 47 ∧ (0 ≤ ((9 : Nat) : Int) + 38) ∧ mz_t 28 13 = 41 ∧ (0 ≤ ((28 : Nat) : Int) + 13) ∧ mz_t 44 (-41) = 3 ∧ (0 ≤ ((44 : Nat) : Int) + (-41)) := by decide +kernel
theorem j_Multiplier_multiplyOn_20 : mz_t 20 12 = 32 ∧ (0 ≤ ((20 : Nat) : Int) + 12) := by decide +kernel
theorem j_Multiplier_multiplyOn_29 : mz_t 29 5 = 34 ∧ (0 ≤ ((29 : Nat) : Int) + 5) := by decide +kernel
theorem j_Multiplier_multiplyOn_61 : mz_t 61 5 = 66 ∧ (0 ≤ ((61 : Nat) : Int) + 5) := by decide +kernel
theorem j_Multiplier_multiplyOn_74 : mz_t 74 5 = 79 ∧ (0 ≤ ((74 : Nat) : Int) + 5) := by decide +kernel
theorem j_Multiplier_multiplyOn : mz_t 20 12 = 32 ∧ (0 ≤ ((20 : Nat) : Int) + 12) ∧ mz_t 29 5 = 34 ∧ (0 ≤ ((29 : Nat) : Int) + 5) ∧ mz_t 61 5 = 66 ∧ (0 ≤ ((61 : Nat) : Int) + 5) ∧ mz_t 74 5 = 79 ∧ (0 ≤ ((74 : Nat) : Int) + 5) := by decide +kernel
theorem j_Multiplier_numberIn_14 : mz_t 14 47 = 61 ∧ (0 ≤ ((14 : Nat) : Int) + 47) := by decide +kernel
theorem j_Multiplier_numberIn_31 : mz_t 31 7 = 38 ∧ (0 ≤ ((31 : Nat) : Int) + 7) := by decide +kernel
theorem j_Multiplier_numberIn_58 : mz_t 58 (-50) = 8 ∧ (0 ≤ ((58 : Nat) : Int) + (-50)) := by decide +kernel
theorem j_Multiplier_numberIn : mz_t 14 47 = 61 ∧ (0 ≤ ((14 : Nat) : Int) + 47) ∧ mz_t 31 7 = 38 ∧ (0 ≤ ((31 : Nat) : Int) + 7) ∧ mz_t 58 (-50) = 8 ∧ (0 ≤ ((58 : Nat) : Int) + (-50)) := by decide +kernel
theorem j_Multiplier_canTakeNumber_10 : mz_t 10 25 = 35 ∧ (0 ≤ ((10 : Nat) : Int) + 25) := by decide +kernel
theorem j_Multiplier_canTakeNumber_24 : mz_t 24 5 = 29 ∧ (0 ≤ ((24 : Nat) : Int) + 5) := by decide +kernel
theorem j_Multiplier_canTakeNumber_32 : mz_t 32 (-27) = 5 ∧ (0 ≤ ((32 : Nat) : Int) + (-27)) := by decide +kernel
theorem j_Multiplier_canTakeNumber : mz_t 10 25 = 35 ∧ (0 ≤ ((10 : Nat) : Int) + 25) ∧ mz_t 24 5 = 29 ∧ (0 ≤ ((24 : Nat) : Int) + 5) ∧ mz_t 32 (-27) = 5 ∧ (0 ≤ ((32 : Nat) : Int) + (-27)) := by decide +kernel
theorem j_Multiplier_punchNumber_10 : mz_t 10 21 = 31 ∧ (0 ≤ ((10 : Nat) : Int) + 21) := by decide +kernel
theorem j_Multiplier_punchNumber_28 : mz_t 28 (-23) = 5 ∧ (0 ≤ ((28 : Nat) : Int) + (-23)) := by decide +kernel
theorem j_Multiplier_punchNumber : mz_t 10 21 = 31 ∧ (0 ≤ ((10 : Nat) : Int) + 21) ∧ mz_t 28 (-23) = 5 ∧ (0 ≤ ((28 : Nat) : Int) + (-23)) := by decide +kernel
theorem j_Office_tabulate_4 : mz_t 4 10 = 14 ∧ (0 ≤ ((4 : Nat) : Int) + 10) := by decide +kernel
theorem j_Office_tabulate_11 : mz_t 11 13 = 24 ∧ (0 ≤ ((11 : Nat) : Int) + 13) := by decide +kernel
theorem j_Office_tabulate : mz_t 4 10 = 14 ∧ (0 ≤ ((4 : Nat) : Int) + 10) ∧ mz_t 11 13 = 24 ∧ (0 ≤ ((11 : Nat) : Int) + 13) := by decide +kernel
theorem j_Tabulator_goThrough_23 : mz_t 23 82 = 105 ∧ (0 ≤ ((23 : Nat) : Int) + 82) := by decide +kernel
theorem j_Tabulator_goThrough_36 : mz_t 36 7 = 43 ∧ (0 ≤ ((36 : Nat) : Int) + 7) := by decide +kernel
theorem j_Tabulator_goThrough_40 : mz_t 40 17 = 57 ∧ (0 ≤ ((40 : Nat) : Int) + 17) := by decide +kernel
theorem j_Tabulator_goThrough_74 : mz_t 74 12 = 86 ∧ (0 ≤ ((74 : Nat) : Int) + 12) := by decide +kernel
theorem j_Tabulator_goThrough_102 : mz_t 102 (-85) = 17 ∧ (0 ≤ ((102 : Nat) : Int) + (-85)) := by decide +kernel
theorem j_Tabulator_goThrough : mz_t 23 82 = 105 ∧ (0 ≤ ((23 : Nat) : Int) + 82) ∧ mz_t 36 7 = 43 ∧ (0 ≤ ((36 : Nat) : Int) + 7) ∧ mz_t 40 17 = 57 ∧ (0 ≤ ((40 : Nat) : Int) + 17) ∧ mz_t 74 12 = 86 ∧ (0 ≤ ((74 : Nat) : Int) + 12) ∧ mz_t 102 (-85) = 17 ∧ (0 ≤ ((102 : Nat) : Int) + (-85)) := by decide +kernel
theorem j_Board_isListing_7 : mz_t 7 22 = 29 ∧ (0 ≤ ((7 : Nat) : Int) + 22) := by decide +kernel
theorem j_Board_isListing_18 : mz_t 18 5 = 23 ∧ (0 ≤ ((18 : Nat) : Int) + 5) := by decide +kernel
theorem j_Board_isListing_26 : mz_t 26 (-24) = 2 ∧ (0 ≤ ((26 : Nat) : Int) + (-24)) := by decide +kernel
theorem j_Board_isListing : mz_t 7 22 = 29 ∧ (0 ≤ ((7 : Nat) : Int) + 22) ∧ mz_t 18 5 = 23 ∧ (0 ≤ ((18 : Nat) : Int) + 5) ∧ mz_t 26 (-24) = 2 ∧ (0 ≤ ((26 : Nat) : Int) + (-24)) := by decide +kernel
theorem j_Board_levelsBroken_11 : mz_t 11 101 = 112 ∧ (0 ≤ ((11 : Nat) : Int) + 101) := by decide +kernel
theorem j_Board_levelsBroken_23 : mz_t 23 19 = 42 ∧ (0 ≤ ((23 : Nat) : Int) + 19) := by decide +kernel
theorem j_Board_levelsBroken_35 : mz_t 35 7 = 42 ∧ (0 ≤ ((35 : Nat) : Int) + 7) := by decide +kernel
theorem j_Board_levelsBroken_39 : mz_t 39 4 = 43 ∧ (0 ≤ ((39 : Nat) : Int) + 4) := by decide +kernel
theorem j_Board_levelsBroken_47 : mz_t 47 59 = 106 ∧ (0 ≤ ((47 : Nat) : Int) + 59) := by decide +kernel
theorem j_Board_levelsBroken_59 : mz_t 59 47 = 106 ∧ (0 ≤ ((59 : Nat) : Int) + 47) := by decide +kernel
theorem j_Board_levelsBroken_86 : mz_t 86 20 = 106 ∧ (0 ≤ ((86 : Nat) : Int) + 20) := by decide +kernel
theorem j_Board_levelsBroken_109 : mz_t 109 (-104) = 5 ∧ (0 ≤ ((109 : Nat) : Int) + (-104)) := by decide +kernel
theorem j_Board_levelsBroken : mz_t 11 101 = 112 ∧ (0 ≤ ((11 : Nat) : Int) + 101) ∧ mz_t 23 19 = 42 ∧ (0 ≤ ((23 : Nat) : Int) + 19) ∧ mz_t 35 7 = 42 ∧ (0 ≤ ((35 : Nat) : Int) + 7) ∧ mz_t 39 4 = 43 ∧ (0 ≤ ((39 : Nat) : Int) + 4) ∧ mz_t 47 59 = 106 ∧ (0 ≤ ((47 : Nat) : Int) + 59) ∧ mz_t 59 47 = 106 ∧ (0 ≤ ((59 : Nat) : Int) + 47) ∧ mz_t 86 20 = 106 ∧ (0 ≤ ((86 : Nat) : Int) + 20) ∧ mz_t 109 (-104) = 5 ∧ (0 ≤ ((109 : Nat) : Int) + (-104)) := by decide +kernel
theorem j_Tabulator_faultOfCard_24 : mz_t 24 28 = 52 ∧ (0 ≤ ((24 : Nat) : Int) + 28) := by decide +kernel
theorem j_Tabulator_faultOfCard_29 : mz_t 29 13 = 42 ∧ (0 ≤ ((29 : Nat) : Int) + 13) := by decide +kernel
theorem j_Tabulator_faultOfCard_39 : mz_t 39 13 = 52 ∧ (0 ≤ ((39 : Nat) : Int) + 13) := by decide +kernel
theorem j_Tabulator_faultOfCard_49 : mz_t 49 5 = 54 ∧ (0 ≤ ((49 : Nat) : Int) + 5) := by decide +kernel
theorem j_Tabulator_faultOfCard_60 : mz_t 60 5 = 65 ∧ (0 ≤ ((60 : Nat) : Int) + 5) := by decide +kernel
theorem j_Tabulator_faultOfCard_72 : mz_t 72 7 = 79 ∧ (0 ≤ ((72 : Nat) : Int) + 7) := by decide +kernel
theorem j_Tabulator_faultOfCard_76 : mz_t 76 4 = 80 ∧ (0 ≤ ((76 : Nat) : Int) + 4) := by decide +kernel
theorem j_Tabulator_faultOfCard_92 : mz_t 92 7 = 99 ∧ (0 ≤ ((92 : Nat) : Int) + 7) := by decide +kernel
theorem j_Tabulator_faultOfCard_96 : mz_t 96 4 = 100 ∧ (0 ≤ ((96 : Nat) : Int) + 4) := by decide +kernel
theorem j_Tabulator_faultOfCard : mz_t 24 28 = 52 ∧ (0 ≤ ((24 : Nat) : Int) + 28) ∧ mz_t 29 13 = 42 ∧ (0 ≤ ((29 : Nat) : Int) + 13) ∧ mz_t 39 13 = 52 ∧ (0 ≤ ((39 : Nat) : Int) + 13) ∧ mz_t 49 5 = 54 ∧ (0 ≤ ((49 : Nat) : Int) + 5) ∧ mz_t 60 5 = 65 ∧ (0 ≤ ((60 : Nat) : Int) + 5) ∧ mz_t 72 7 = 79 ∧ (0 ≤ ((72 : Nat) : Int) + 7) ∧ mz_t 76 4 = 80 ∧ (0 ≤ ((76 : Nat) : Int) + 4) ∧ mz_t 92 7 = 99 ∧ (0 ≤ ((92 : Nat) : Int) + 7) ∧ mz_t 96 4 = 100 ∧ (0 ≤ ((96 : Nat) : Int) + 4) := by decide +kernel
theorem j_Tabulator_totalsClash_4 : mz_t 4 34 = 38 ∧ (0 ≤ ((4 : Nat) : Int) + 34) := by decide +kernel
theorem j_Tabulator_totalsClash_27 : mz_t 27 5 = 32 ∧ (0 ≤ ((27 : Nat) : Int) + 5) := by decide +kernel
theorem j_Tabulator_totalsClash_35 : mz_t 35 (-33) = 2 ∧ (0 ≤ ((35 : Nat) : Int) + (-33)) := by decide +kernel
theorem j_Tabulator_totalsClash : mz_t 4 34 = 38 ∧ (0 ≤ ((4 : Nat) : Int) + 34) ∧ mz_t 27 5 = 32 ∧ (0 ≤ ((27 : Nat) : Int) + 5) ∧ mz_t 35 (-33) = 2 ∧ (0 ≤ ((35 : Nat) : Int) + (-33)) := by decide +kernel
theorem j_Board_bringFromCounters_13 : mz_t 13 85 = 98 ∧ (0 ≤ ((13 : Nat) : Int) + 85) := by decide +kernel
theorem j_Board_bringFromCounters_22 : mz_t 22 70 = 92 ∧ (0 ≤ ((22 : Nat) : Int) + 70) := by decide +kernel
theorem j_Board_bringFromCounters_36 : mz_t 36 56 = 92 ∧ (0 ≤ ((36 : Nat) : Int) + 56) := by decide +kernel
theorem j_Board_bringFromCounters_66 : mz_t 66 26 = 92 ∧ (0 ≤ ((66 : Nat) : Int) + 26) := by decide +kernel
theorem j_Board_bringFromCounters_95 : mz_t 95 (-88) = 7 ∧ (0 ≤ ((95 : Nat) : Int) + (-88)) := by decide +kernel
theorem j_Board_bringFromCounters : mz_t 13 85 = 98 ∧ (0 ≤ ((13 : Nat) : Int) + 85) ∧ mz_t 22 70 = 92 ∧ (0 ≤ ((22 : Nat) : Int) + 70) ∧ mz_t 36 56 = 92 ∧ (0 ≤ ((36 : Nat) : Int) + 56) ∧ mz_t 66 26 = 92 ∧ (0 ≤ ((66 : Nat) : Int) + 26) ∧ mz_t 95 (-88) = 7 ∧ (0 ≤ ((95 : Nat) : Int) + (-88)) := by decide +kernel
theorem j_Board_wheelSign_9 : mz_t 9 12 = 21 ∧ (0 ≤ ((9 : Nat) : Int) + 12) := by decide +kernel
theorem j_Board_wheelSign_13 : mz_t 13 8 = 21 ∧ (0 ≤ ((13 : Nat) : Int) + 8) := by decide +kernel
theorem j_Board_wheelSign_18 : mz_t 18 10 = 28 ∧ (0 ≤ ((18 : Nat) : Int) + 10) := by decide +kernel
theorem j_Board_wheelSign : mz_t 9 12 = 21 ∧ (0 ≤ ((9 : Nat) : Int) + 12) ∧ mz_t 13 8 = 21 ∧ (0 ≤ ((13 : Nat) : Int) + 8) ∧ mz_t 18 10 = 28 ∧ (0 ≤ ((18 : Nat) : Int) + 10) := by decide +kernel
theorem j_Tabulator_isAnyOverrun_4 : mz_t 4 50 = 54 ∧ (0 ≤ ((4 : Nat) : Int) + 50) := by decide +kernel
theorem j_Tabulator_isAnyOverrun_14 : mz_t 14 7 = 21 ∧ (0 ≤ ((14 : Nat) : Int) + 7) := by decide +kernel
theorem j_Tabulator_isAnyOverrun_18 : mz_t 18 9 = 27 ∧ (0 ≤ ((18 : Nat) : Int) + 9) := by decide +kernel
theorem j_Tabulator_isAnyOverrun_43 : mz_t 43 5 = 48 ∧ (0 ≤ ((43 : Nat) : Int) + 5) := by decide +kernel
theorem j_Tabulator_isAnyOverrun_51 : mz_t 51 (-49) = 2 ∧ (0 ≤ ((51 : Nat) : Int) + (-49)) := by decide +kernel
theorem j_Tabulator_isAnyOverrun : mz_t 4 50 = 54 ∧ (0 ≤ ((4 : Nat) : Int) + 50) ∧ mz_t 14 7 = 21 ∧ (0 ≤ ((14 : Nat) : Int) + 7) ∧ mz_t 18 9 = 27 ∧ (0 ≤ ((18 : Nat) : Int) + 9) ∧ mz_t 43 5 = 48 ∧ (0 ≤ ((43 : Nat) : Int) + 5) ∧ mz_t 51 (-49) = 2 ∧ (0 ≤ ((51 : Nat) : Int) + (-49)) := by decide +kernel
theorem j_Tabulator_entered_7 : mz_t 7 42 = 49 ∧ (0 ≤ ((7 : Nat) : Int) + 42) := by decide +kernel
theorem j_Tabulator_entered_46 : mz_t 46 (-42) = 4 ∧ (0 ≤ ((46 : Nat) : Int) + (-42)) := by decide +kernel
theorem j_Tabulator_entered : mz_t 7 42 = 49 ∧ (0 ≤ ((7 : Nat) : Int) + 42) ∧ mz_t 46 (-42) = 4 ∧ (0 ≤ ((46 : Nat) : Int) + (-42)) := by decide +kernel
theorem j_Tabulator_totalLines_6 : mz_t 6 20 = 26 ∧ (0 ≤ ((6 : Nat) : Int) + 20) := by decide +kernel
theorem j_Tabulator_totalLines_14 : mz_t 14 6 = 20 ∧ (0 ≤ ((14 : Nat) : Int) + 6) := by decide +kernel
theorem j_Tabulator_totalLines_23 : mz_t 23 (-19) = 4 ∧ (0 ≤ ((23 : Nat) : Int) + (-19)) := by decide +kernel
theorem j_Tabulator_totalLines : mz_t 6 20 = 26 ∧ (0 ≤ ((6 : Nat) : Int) + 20) ∧ mz_t 14 6 = 20 ∧ (0 ≤ ((14 : Nat) : Int) + 6) ∧ mz_t 23 (-19) = 4 ∧ (0 ≤ ((23 : Nat) : Int) + (-19)) := by decide +kernel
theorem j_Board_hasCounterOf_4 : mz_t 4 21 = 25 ∧ (0 ≤ ((4 : Nat) : Int) + 21) := by decide +kernel
theorem j_Board_hasCounterOf_14 : mz_t 14 5 = 19 ∧ (0 ≤ ((14 : Nat) : Int) + 5) := by decide +kernel
theorem j_Board_hasCounterOf_22 : mz_t 22 (-20) = 2 ∧ (0 ≤ ((22 : Nat) : Int) + (-20)) := by decide +kernel
theorem j_Board_hasCounterOf : mz_t 4 21 = 25 ∧ (0 ≤ ((4 : Nat) : Int) + 21) ∧ mz_t 14 5 = 19 ∧ (0 ≤ ((14 : Nat) : Int) + 5) ∧ mz_t 22 (-20) = 2 ∧ (0 ≤ ((22 : Nat) : Int) + (-20)) := by decide +kernel
theorem j_Paper_hasRoomFor_8 : mz_t 8 7 = 15 ∧ (0 ≤ ((8 : Nat) : Int) + 7) := by decide +kernel
theorem j_Paper_hasRoomFor_12 : mz_t 12 4 = 16 ∧ (0 ≤ ((12 : Nat) : Int) + 4) := by decide +kernel
theorem j_Paper_hasRoomFor : mz_t 8 7 = 15 ∧ (0 ≤ ((8 : Nat) : Int) + 7) ∧ mz_t 12 4 = 16 ∧ (0 ≤ ((12 : Nat) : Int) + 4) := by decide +kernel
theorem j_Tabulator_doTotals_4 : mz_t 4 47 = 51 ∧ (0 ≤ ((4 : Nat) : Int) + 47) := by decide +kernel
theorem j_Tabulator_doTotals_12 : mz_t 12 33 = 45 ∧ (0 ≤ ((12 : Nat) : Int) + 33) := by decide +kernel
theorem j_Tabulator_doTotals_48 : mz_t 48 (-46) = 2 ∧ (0 ≤ ((48 : Nat) : Int) + (-46)) := by decide +kernel
theorem j_Tabulator_doTotals : mz_t 4 47 = 51 ∧ (0 ≤ ((4 : Nat) : Int) + 47) ∧ mz_t 12 33 = 45 ∧ (0 ≤ ((12 : Nat) : Int) + 33) ∧ mz_t 48 (-46) = 2 ∧ (0 ≤ ((48 : Nat) : Int) + (-46)) := by decide +kernel
theorem j_Paper_print_5 : mz_t 5 25 = 30 ∧ (0 ≤ ((5 : Nat) : Int) + 25) := by decide +kernel
theorem j_Paper_print_27 : mz_t 27 (-25) = 2 ∧ (0 ≤ ((27 : Nat) : Int) + (-25)) := by decide +kernel
theorem j_Paper_print : mz_t 5 25 = 30 ∧ (0 ≤ ((5 : Nat) : Int) + 25) ∧ mz_t 27 (-25) = 2 ∧ (0 ≤ ((27 : Nat) : Int) + (-25)) := by decide +kernel
theorem j_Tabulator_clearCounters_4 : mz_t 4 26 = 30 ∧ (0 ≤ ((4 : Nat) : Int) + 26) := by decide +kernel
theorem j_Tabulator_clearCounters_14 : mz_t 14 10 = 24 ∧ (0 ≤ ((14 : Nat) : Int) + 10) := by decide +kernel
theorem j_Tabulator_clearCounters_27 : mz_t 27 (-25) = 2 ∧ (0 ≤ ((27 : Nat) : Int) + (-25)) := by decide +kernel
theorem j_Tabulator_clearCounters : mz_t 4 26 = 30 ∧ (0 ≤ ((4 : Nat) : Int) + 26) ∧ mz_t 14 10 = 24 ∧ (0 ≤ ((14 : Nat) : Int) + 10) ∧ mz_t 27 (-25) = 2 ∧ (0 ≤ ((27 : Nat) : Int) + (-25)) := by decide +kernel
theorem j_Tabulator_doCard_1 : mz_t 1 14 = 15 ∧ (0 ≤ ((1 : Nat) : Int) + 14) := by decide +kernel
theorem j_Tabulator_doCard_19 : mz_t 19 23 = 42 ∧ (0 ≤ ((19 : Nat) : Int) + 23) := by decide +kernel
theorem j_Tabulator_doCard_39 : mz_t 39 (-22) = 17 ∧ (0 ≤ ((39 : Nat) : Int) + (-22)) := by decide +kernel
theorem j_Tabulator_doCard : mz_t 1 14 = 15 ∧ (0 ≤ ((1 : Nat) : Int) + 14) ∧ mz_t 19 23 = 42 ∧ (0 ≤ ((19 : Nat) : Int) + 23) ∧ mz_t 39 (-22) = 17 ∧ (0 ≤ ((39 : Nat) : Int) + (-22)) := by decide +kernel
theorem j_Tabulator_finish_1 : mz_t 1 29 = 30 ∧ (0 ≤ ((1 : Nat) : Int) + 29) := by decide +kernel
theorem j_Tabulator_finish_13 : mz_t 13 11 = 24 ∧ (0 ≤ ((13 : Nat) : Int) + 11) := by decide +kernel
theorem j_Tabulator_finish : mz_t 1 29 = 30 ∧ (0 ≤ ((1 : Nat) : Int) + 29) ∧ mz_t 13 11 = 24 ∧ (0 ≤ ((13 : Nat) : Int) + 11) := by decide +kernel
theorem j_Tabulator_faultOfLastTotals_6 : mz_t 6 5 = 11 ∧ (0 ≤ ((6 : Nat) : Int) + 5) := by decide +kernel
theorem j_Tabulator_faultOfLastTotals_23 : mz_t 23 7 = 30 ∧ (0 ≤ ((23 : Nat) : Int) + 7) := by decide +kernel
theorem j_Tabulator_faultOfLastTotals_27 : mz_t 27 4 = 31 ∧ (0 ≤ ((27 : Nat) : Int) + 4) := by decide +kernel
theorem j_Tabulator_faultOfLastTotals : mz_t 6 5 = 11 ∧ (0 ≤ ((6 : Nat) : Int) + 5) ∧ mz_t 23 7 = 30 ∧ (0 ≤ ((23 : Nat) : Int) + 7) ∧ mz_t 27 4 = 31 ∧ (0 ≤ ((27 : Nat) : Int) + 4) := by decide +kernel
theorem j_Office_sign_4 : mz_t 4 27 = 31 ∧ (0 ≤ ((4 : Nat) : Int) + 27) := by decide +kernel
theorem j_Office_sign_8 : mz_t 8 23 = 31 ∧ (0 ≤ ((8 : Nat) : Int) + 23) := by decide +kernel
theorem j_Office_sign_21 : mz_t 21 10 = 31 ∧ (0 ≤ ((21 : Nat) : Int) + 10) := by decide +kernel
theorem j_Office_sign_28 : mz_t 28 13 = 41 ∧ (0 ≤ ((28 : Nat) : Int) + 13) := by decide +kernel
theorem j_Office_sign : mz_t 4 27 = 31 ∧ (0 ≤ ((4 : Nat) : Int) + 27) ∧ mz_t 8 23 = 31 ∧ (0 ≤ ((8 : Nat) : Int) + 23) ∧ mz_t 21 10 = 31 ∧ (0 ≤ ((21 : Nat) : Int) + 10) ∧ mz_t 28 13 = 41 ∧ (0 ≤ ((28 : Nat) : Int) + 13) := by decide +kernel
theorem j_Office_printed_1 : mz_t 1 27 = 28 ∧ (0 ≤ ((1 : Nat) : Int) + 27) := by decide +kernel
theorem j_Office_printed_15 : mz_t 15 13 = 28 ∧ (0 ≤ ((15 : Nat) : Int) + 13) := by decide +kernel
theorem j_Office_printed_19 : mz_t 19 9 = 28 ∧ (0 ≤ ((19 : Nat) : Int) + 9) := by decide +kernel
theorem j_Office_printed_25 : mz_t 25 13 = 38 ∧ (0 ≤ ((25 : Nat) : Int) + 13) := by decide +kernel
theorem j_Office_printed : mz_t 1 27 = 28 ∧ (0 ≤ ((1 : Nat) : Int) + 27) ∧ mz_t 15 13 = 28 ∧ (0 ≤ ((15 : Nat) : Int) + 13) ∧ mz_t 19 9 = 28 ∧ (0 ≤ ((19 : Nat) : Int) + 9) ∧ mz_t 25 13 = 38 ∧ (0 ≤ ((25 : Nat) : Int) + 13) := by decide +kernel
theorem j_Office_counter_4 : mz_t 4 13 = 17 ∧ (0 ≤ ((4 : Nat) : Int) + 13) := by decide +kernel
theorem j_Office_counter : mz_t 4 13 = 17 ∧ (0 ≤ ((4 : Nat) : Int) + 13) := by decide +kernel
theorem j_Model_init_114 : mz_t 114 16 = 130 ∧ (0 ≤ ((114 : Nat) : Int) + 16) := by decide +kernel
theorem j_Model_init_127 : mz_t 127 (-16) = 111 ∧ (0 ≤ ((127 : Nat) : Int) + (-16)) := by decide +kernel
theorem j_Model_init : mz_t 114 16 = 130 ∧ (0 ≤ ((114 : Nat) : Int) + 16) ∧ mz_t 127 (-16) = 111 ∧ (0 ≤ ((127 : Nat) : Int) + (-16)) := by decide +kernel
theorem j_Model_card_9 : mz_t 9 17 = 26 ∧ (0 ≤ ((9 : Nat) : Int) + 17) := by decide +kernel
theorem j_Model_card_19 : mz_t 19 7 = 26 ∧ (0 ≤ ((19 : Nat) : Int) + 7) := by decide +kernel
theorem j_Model_card_23 : mz_t 23 4 = 27 ∧ (0 ≤ ((23 : Nat) : Int) + 4) := by decide +kernel
theorem j_Model_card_36 : mz_t 36 57 = 93 ∧ (0 ≤ ((36 : Nat) : Int) + 57) := by decide +kernel
theorem j_Model_card_41 : mz_t 41 43 = 84 ∧ (0 ≤ ((41 : Nat) : Int) + 43) := by decide +kernel
theorem j_Model_card_48 : mz_t 48 7 = 55 ∧ (0 ≤ ((48 : Nat) : Int) + 7) := by decide +kernel
theorem j_Model_card_52 : mz_t 52 5 = 57 ∧ (0 ≤ ((52 : Nat) : Int) + 5) := by decide +kernel
theorem j_Model_card_77 : mz_t 77 7 = 84 ∧ (0 ≤ ((77 : Nat) : Int) + 7) := by decide +kernel
theorem j_Model_card_81 : mz_t 81 4 = 85 ∧ (0 ≤ ((81 : Nat) : Int) + 4) := by decide +kernel
theorem j_Model_card_90 : mz_t 90 (-58) = 32 ∧ (0 ≤ ((90 : Nat) : Int) + (-58)) := by decide +kernel
theorem j_Model_card_95 : mz_t 95 5 = 100 ∧ (0 ≤ ((95 : Nat) : Int) + 5) := by decide +kernel
theorem j_Model_card_113 : mz_t 113 53 = 166 ∧ (0 ≤ ((113 : Nat) : Int) + 53) := by decide +kernel
theorem j_Model_card_132 : mz_t 132 7 = 139 ∧ (0 ≤ ((132 : Nat) : Int) + 7) := by decide +kernel
theorem j_Model_card_136 : mz_t 136 5 = 141 ∧ (0 ≤ ((136 : Nat) : Int) + 5) := by decide +kernel
theorem j_Model_card_163 : mz_t 163 (-54) = 109 ∧ (0 ≤ ((163 : Nat) : Int) + (-54)) := by decide +kernel
theorem j_Model_card : mz_t 9 17 = 26 ∧ (0 ≤ ((9 : Nat) : Int) + 17) ∧ mz_t 19 7 = 26 ∧ (0 ≤ ((19 : Nat) : Int) + 7) ∧ mz_t 23 4 = 27 ∧ (0 ≤ ((23 : Nat) : Int) + 4) ∧ mz_t 36 57 = 93 ∧ (0 ≤ ((36 : Nat) : Int) + 57) ∧ mz_t 41 43 = 84 ∧ (0 ≤ ((41 : Nat) : Int) + 43) ∧ mz_t 48 7 = 55 ∧ (0 ≤ ((48 : Nat) : Int) + 7) ∧ mz_t 52 5 = 57 ∧ (0 ≤ ((52 : Nat) : Int) + 5) ∧ mz_t 77 7 = 84 ∧ (0 ≤ ((77 : Nat) : Int) + 7) ∧ mz_t 81 4 = 85 ∧ (0 ≤ ((81 : Nat) : Int) + 4) ∧ mz_t 90 (-58) = 32 ∧ (0 ≤ ((90 : Nat) : Int) + (-58)) ∧ mz_t 95 5 = 100 ∧ (0 ≤ ((95 : Nat) : Int) + 5) ∧ mz_t 113 53 = 166 ∧ (0 ≤ ((113 : Nat) : Int) + 53) ∧ mz_t 132 7 = 139 ∧ (0 ≤ ((132 : Nat) : Int) + 7) ∧ mz_t 136 5 = 141 ∧ (0 ≤ ((136 : Nat) : Int) + 5) ∧ mz_t 163 (-54) = 109 ∧ (0 ≤ ((163 : Nat) : Int) + (-54)) := by decide +kernel
theorem j_Model_isDeck_1 : mz_t 1 13 = 14 ∧ (0 ≤ ((1 : Nat) : Int) + 13) := by decide +kernel
theorem j_Model_isDeck_7 : mz_t 7 7 = 14 ∧ (0 ≤ ((7 : Nat) : Int) + 7) := by decide +kernel
theorem j_Model_isDeck_11 : mz_t 11 4 = 15 ∧ (0 ≤ ((11 : Nat) : Int) + 4) := by decide +kernel
theorem j_Model_isDeck : mz_t 1 13 = 14 ∧ (0 ≤ ((1 : Nat) : Int) + 13) ∧ mz_t 7 7 = 14 ∧ (0 ≤ ((7 : Nat) : Int) + 7) ∧ mz_t 11 4 = 15 ∧ (0 ≤ ((11 : Nat) : Int) + 4) := by decide +kernel
theorem j_Model_isSign_3 : mz_t 3 27 = 30 ∧ (0 ≤ ((3 : Nat) : Int) + 27) := by decide +kernel
theorem j_Model_isSign_9 : mz_t 9 9 = 18 ∧ (0 ≤ ((9 : Nat) : Int) + 9) := by decide +kernel
theorem j_Model_isSign_15 : mz_t 15 15 = 30 ∧ (0 ≤ ((15 : Nat) : Int) + 15) := by decide +kernel
theorem j_Model_isSign_21 : mz_t 21 13 = 34 ∧ (0 ≤ ((21 : Nat) : Int) + 13) := by decide +kernel
theorem j_Model_isSign_27 : mz_t 27 7 = 34 ∧ (0 ≤ ((27 : Nat) : Int) + 7) := by decide +kernel
theorem j_Model_isSign_31 : mz_t 31 4 = 35 ∧ (0 ≤ ((31 : Nat) : Int) + 4) := by decide +kernel
theorem j_Model_isSign : mz_t 3 27 = 30 ∧ (0 ≤ ((3 : Nat) : Int) + 27) ∧ mz_t 9 9 = 18 ∧ (0 ≤ ((9 : Nat) : Int) + 9) ∧ mz_t 15 15 = 30 ∧ (0 ≤ ((15 : Nat) : Int) + 15) ∧ mz_t 21 13 = 34 ∧ (0 ≤ ((21 : Nat) : Int) + 13) ∧ mz_t 27 7 = 34 ∧ (0 ≤ ((27 : Nat) : Int) + 7) ∧ mz_t 31 4 = 35 ∧ (0 ≤ ((31 : Nat) : Int) + 4) := by decide +kernel
theorem j_Model_newCard_5 : mz_t 5 25 = 30 ∧ (0 ≤ ((5 : Nat) : Int) + 25) := by decide +kernel
theorem j_Model_newCard_27 : mz_t 27 (-25) = 2 ∧ (0 ≤ ((27 : Nat) : Int) + (-25)) := by decide +kernel
theorem j_Model_newCard : mz_t 5 25 = 30 ∧ (0 ≤ ((5 : Nat) : Int) + 25) ∧ mz_t 27 (-25) = 2 ∧ (0 ≤ ((27 : Nat) : Int) + (-25)) := by decide +kernel
theorem j_Model_wire_9 : mz_t 9 28 = 37 ∧ (0 ≤ ((9 : Nat) : Int) + 28) := by decide +kernel
theorem j_Model_wire_16 : mz_t 16 21 = 37 ∧ (0 ≤ ((16 : Nat) : Int) + 21) := by decide +kernel
theorem j_Model_wire_23 : mz_t 23 14 = 37 ∧ (0 ≤ ((23 : Nat) : Int) + 14) := by decide +kernel
theorem j_Model_wire_34 : mz_t 34 5 = 39 ∧ (0 ≤ ((34 : Nat) : Int) + 5) := by decide +kernel
theorem j_Model_wire_58 : mz_t 58 33 = 91 ∧ (0 ≤ ((58 : Nat) : Int) + 33) := by decide +kernel
theorem j_Model_wire_69 : mz_t 69 16 = 85 ∧ (0 ≤ ((69 : Nat) : Int) + 16) := by decide +kernel
theorem j_Model_wire_80 : mz_t 80 5 = 85 ∧ (0 ≤ ((80 : Nat) : Int) + 5) := by decide +kernel
theorem j_Model_wire_88 : mz_t 88 (-43) = 45 ∧ (0 ≤ ((88 : Nat) : Int) + (-43)) := by decide +kernel
theorem j_Model_wire : mz_t 9 28 = 37 ∧ (0 ≤ ((9 : Nat) : Int) + 28) ∧ mz_t 16 21 = 37 ∧ (0 ≤ ((16 : Nat) : Int) + 21) ∧ mz_t 23 14 = 37 ∧ (0 ≤ ((23 : Nat) : Int) + 14) ∧ mz_t 34 5 = 39 ∧ (0 ≤ ((34 : Nat) : Int) + 5) ∧ mz_t 58 33 = 91 ∧ (0 ≤ ((58 : Nat) : Int) + 33) ∧ mz_t 69 16 = 85 ∧ (0 ≤ ((69 : Nat) : Int) + 16) ∧ mz_t 80 5 = 85 ∧ (0 ≤ ((80 : Nat) : Int) + 5) ∧ mz_t 88 (-43) = 45 ∧ (0 ≤ ((88 : Nat) : Int) + (-43)) := by decide +kernel
theorem j_Model_isBoard_1 : mz_t 1 12 = 13 ∧ (0 ≤ ((1 : Nat) : Int) + 12) := by decide +kernel
theorem j_Model_isBoard_6 : mz_t 6 7 = 13 ∧ (0 ≤ ((6 : Nat) : Int) + 7) := by decide +kernel
theorem j_Model_isBoard_10 : mz_t 10 4 = 14 ∧ (0 ≤ ((10 : Nat) : Int) + 4) := by decide +kernel
theorem j_Model_isBoard : mz_t 1 12 = 13 ∧ (0 ≤ ((1 : Nat) : Int) + 12) ∧ mz_t 6 7 = 13 ∧ (0 ≤ ((6 : Nat) : Int) + 7) ∧ mz_t 10 4 = 14 ∧ (0 ≤ ((10 : Nat) : Int) + 4) := by decide +kernel
theorem j_Model_isFrom_1 : mz_t 1 9 = 10 ∧ (0 ≤ ((1 : Nat) : Int) + 9) := by decide +kernel
theorem j_Model_isFrom_7 : mz_t 7 15 = 22 ∧ (0 ≤ ((7 : Nat) : Int) + 15) := by decide +kernel
theorem j_Model_isFrom_13 : mz_t 13 13 = 26 ∧ (0 ≤ ((13 : Nat) : Int) + 13) := by decide +kernel
theorem j_Model_isFrom_19 : mz_t 19 7 = 26 ∧ (0 ≤ ((19 : Nat) : Int) + 7) := by decide +kernel
theorem j_Model_isFrom_23 : mz_t 23 4 = 27 ∧ (0 ≤ ((23 : Nat) : Int) + 4) := by decide +kernel
theorem j_Model_isFrom : mz_t 1 9 = 10 ∧ (0 ≤ ((1 : Nat) : Int) + 9) ∧ mz_t 7 15 = 22 ∧ (0 ≤ ((7 : Nat) : Int) + 15) ∧ mz_t 13 13 = 26 ∧ (0 ≤ ((13 : Nat) : Int) + 13) ∧ mz_t 19 7 = 26 ∧ (0 ≤ ((19 : Nat) : Int) + 7) ∧ mz_t 23 4 = 27 ∧ (0 ≤ ((23 : Nat) : Int) + 4) := by decide +kernel
theorem j_Model_isTo_1 : mz_t 1 9 = 10 ∧ (0 ≤ ((1 : Nat) : Int) + 9) := by decide +kernel
theorem j_Model_isTo_7 : mz_t 7 39 = 46 ∧ (0 ≤ ((7 : Nat) : Int) + 39) := by decide +kernel
theorem j_Model_isTo_13 : mz_t 13 9 = 22 ∧ (0 ≤ ((13 : Nat) : Int) + 9) := by decide +kernel
theorem j_Model_isTo_19 : mz_t 19 27 = 46 ∧ (0 ≤ ((19 : Nat) : Int) + 27) := by decide +kernel
theorem j_Model_isTo_25 : mz_t 25 9 = 34 ∧ (0 ≤ ((25 : Nat) : Int) + 9) := by decide +kernel
theorem j_Model_isTo_31 : mz_t 31 15 = 46 ∧ (0 ≤ ((31 : Nat) : Int) + 15) := by decide +kernel
theorem j_Model_isTo_37 : mz_t 37 13 = 50 ∧ (0 ≤ ((37 : Nat) : Int) + 13) := by decide +kernel
theorem j_Model_isTo_43 : mz_t 43 7 = 50 ∧ (0 ≤ ((43 : Nat) : Int) + 7) := by decide +kernel
theorem j_Model_isTo_47 : mz_t 47 4 = 51 ∧ (0 ≤ ((47 : Nat) : Int) + 4) := by decide +kernel
theorem j_Model_isTo : mz_t 1 9 = 10 ∧ (0 ≤ ((1 : Nat) : Int) + 9) ∧ mz_t 7 39 = 46 ∧ (0 ≤ ((7 : Nat) : Int) + 39) ∧ mz_t 13 9 = 22 ∧ (0 ≤ ((13 : Nat) : Int) + 9) ∧ mz_t 19 27 = 46 ∧ (0 ≤ ((19 : Nat) : Int) + 27) ∧ mz_t 25 9 = 34 ∧ (0 ≤ ((25 : Nat) : Int) + 9) ∧ mz_t 31 15 = 46 ∧ (0 ≤ ((31 : Nat) : Int) + 15) ∧ mz_t 37 13 = 50 ∧ (0 ≤ ((37 : Nat) : Int) + 13) ∧ mz_t 43 7 = 50 ∧ (0 ≤ ((43 : Nat) : Int) + 7) ∧ mz_t 47 4 = 51 ∧ (0 ≤ ((47 : Nat) : Int) + 4) := by decide +kernel
theorem j_Model_strip_9 : mz_t 9 5 = 14 ∧ (0 ≤ ((9 : Nat) : Int) + 5) := by decide +kernel
theorem j_Model_strip_32 : mz_t 32 20 = 52 ∧ (0 ≤ ((32 : Nat) : Int) + 20) := by decide +kernel
theorem j_Model_strip_49 : mz_t 49 (-19) = 30 ∧ (0 ≤ ((49 : Nat) : Int) + (-19)) := by decide +kernel
theorem j_Model_strip : mz_t 9 5 = 14 ∧ (0 ≤ ((9 : Nat) : Int) + 5) ∧ mz_t 32 20 = 52 ∧ (0 ≤ ((32 : Nat) : Int) + 20) ∧ mz_t 49 (-19) = 30 ∧ (0 ≤ ((49 : Nat) : Int) + (-19)) := by decide +kernel
theorem j_Model_level_9 : mz_t 9 21 = 30 ∧ (0 ≤ ((9 : Nat) : Int) + 21) := by decide +kernel
theorem j_Model_level_13 : mz_t 13 17 = 30 ∧ (0 ≤ ((13 : Nat) : Int) + 17) := by decide +kernel
theorem j_Model_level_18 : mz_t 18 12 = 30 ∧ (0 ≤ ((18 : Nat) : Int) + 12) := by decide +kernel
theorem j_Model_level_22 : mz_t 22 8 = 30 ∧ (0 ≤ ((22 : Nat) : Int) + 8) := by decide +kernel
theorem j_Model_level_27 : mz_t 27 5 = 32 ∧ (0 ≤ ((27 : Nat) : Int) + 5) := by decide +kernel
theorem j_Model_level : mz_t 9 21 = 30 ∧ (0 ≤ ((9 : Nat) : Int) + 21) ∧ mz_t 13 17 = 30 ∧ (0 ≤ ((13 : Nat) : Int) + 17) ∧ mz_t 18 12 = 30 ∧ (0 ≤ ((18 : Nat) : Int) + 12) ∧ mz_t 22 8 = 30 ∧ (0 ≤ ((22 : Nat) : Int) + 8) ∧ mz_t 27 5 = 32 ∧ (0 ≤ ((27 : Nat) : Int) + 5) := by decide +kernel
theorem j_Model_pass_5 : mz_t 5 14 = 19 ∧ (0 ≤ ((5 : Nat) : Int) + 14) := by decide +kernel
theorem j_Model_pass_12 : mz_t 12 7 = 19 ∧ (0 ≤ ((12 : Nat) : Int) + 7) := by decide +kernel
theorem j_Model_pass_16 : mz_t 16 4 = 20 ∧ (0 ≤ ((16 : Nat) : Int) + 4) := by decide +kernel
theorem j_Model_pass_27 : mz_t 27 7 = 34 ∧ (0 ≤ ((27 : Nat) : Int) + 7) := by decide +kernel
theorem j_Model_pass_31 : mz_t 31 10 = 41 ∧ (0 ≤ ((31 : Nat) : Int) + 10) := by decide +kernel
theorem j_Model_pass : mz_t 5 14 = 19 ∧ (0 ≤ ((5 : Nat) : Int) + 14) ∧ mz_t 12 7 = 19 ∧ (0 ≤ ((12 : Nat) : Int) + 7) ∧ mz_t 16 4 = 20 ∧ (0 ≤ ((16 : Nat) : Int) + 4) ∧ mz_t 27 7 = 34 ∧ (0 ≤ ((27 : Nat) : Int) + 7) ∧ mz_t 31 10 = 41 ∧ (0 ≤ ((31 : Nat) : Int) + 10) := by decide +kernel
theorem j_Model_isColumn_1 : mz_t 1 13 = 14 ∧ (0 ≤ ((1 : Nat) : Int) + 13) := by decide +kernel
theorem j_Model_isColumn_7 : mz_t 7 7 = 14 ∧ (0 ≤ ((7 : Nat) : Int) + 7) := by decide +kernel
theorem j_Model_isColumn_11 : mz_t 11 4 = 15 ∧ (0 ≤ ((11 : Nat) : Int) + 4) := by decide +kernel
theorem j_Model_isColumn : mz_t 1 13 = 14 ∧ (0 ≤ ((1 : Nat) : Int) + 13) ∧ mz_t 7 7 = 14 ∧ (0 ≤ ((7 : Nat) : Int) + 7) ∧ mz_t 11 4 = 15 ∧ (0 ≤ ((11 : Nat) : Int) + 4) := by decide +kernel
theorem j_Model_sift_13 : mz_t 13 86 = 99 ∧ (0 ≤ ((13 : Nat) : Int) + 86) := by decide +kernel
theorem j_Model_sift_31 : mz_t 31 45 = 76 ∧ (0 ≤ ((31 : Nat) : Int) + 45) := by decide +kernel
theorem j_Model_sift_49 : mz_t 49 21 = 70 ∧ (0 ≤ ((49 : Nat) : Int) + 21) := by decide +kernel
theorem j_Model_sift_73 : mz_t 73 (-50) = 23 ∧ (0 ≤ ((73 : Nat) : Int) + (-50)) := by decide +kernel
theorem j_Model_sift_82 : mz_t 82 7 = 89 ∧ (0 ≤ ((82 : Nat) : Int) + 7) := by decide +kernel
theorem j_Model_sift_86 : mz_t 86 4 = 90 ∧ (0 ≤ ((86 : Nat) : Int) + 4) := by decide +kernel
theorem j_Model_sift_96 : mz_t 96 (-87) = 9 ∧ (0 ≤ ((96 : Nat) : Int) + (-87)) := by decide +kernel
theorem j_Model_sift_106 : mz_t 106 29 = 135 ∧ (0 ≤ ((106 : Nat) : Int) + 29) := by decide +kernel
theorem j_Model_sift_132 : mz_t 132 (-30) = 102 ∧ (0 ≤ ((132 : Nat) : Int) + (-30)) := by decide +kernel
theorem j_Model_sift : mz_t 13 86 = 99 ∧ (0 ≤ ((13 : Nat) : Int) + 86) ∧ mz_t 31 45 = 76 ∧ (0 ≤ ((31 : Nat) : Int) + 45) ∧ mz_t 49 21 = 70 ∧ (0 ≤ ((49 : Nat) : Int) + 21) ∧ mz_t 73 (-50) = 23 ∧ (0 ≤ ((73 : Nat) : Int) + (-50)) ∧ mz_t 82 7 = 89 ∧ (0 ≤ ((82 : Nat) : Int) + 7) ∧ mz_t 86 4 = 90 ∧ (0 ≤ ((86 : Nat) : Int) + 4) ∧ mz_t 96 (-87) = 9 ∧ (0 ≤ ((96 : Nat) : Int) + (-87)) ∧ mz_t 106 29 = 135 ∧ (0 ≤ ((106 : Nat) : Int) + 29) ∧ mz_t 132 (-30) = 102 ∧ (0 ≤ ((132 : Nat) : Int) + (-30)) := by decide +kernel
theorem j_Model_keyOf_1 : mz_t 1 15 = 16 ∧ (0 ≤ ((1 : Nat) : Int) + 15) := by decide +kernel
theorem j_Model_keyOf_13 : mz_t 13 14 = 27 ∧ (0 ≤ ((13 : Nat) : Int) + 14) := by decide +kernel
theorem j_Model_keyOf : mz_t 1 15 = 16 ∧ (0 ≤ ((1 : Nat) : Int) + 15) ∧ mz_t 13 14 = 27 ∧ (0 ≤ ((13 : Nat) : Int) + 14) := by decide +kernel
theorem j_Model_zoneOf_3 : mz_t 3 7 = 10 ∧ (0 ≤ ((3 : Nat) : Int) + 7) := by decide +kernel
theorem j_Model_zoneOf_7 : mz_t 7 24 = 31 ∧ (0 ≤ ((7 : Nat) : Int) + 24) := by decide +kernel
theorem j_Model_zoneOf_13 : mz_t 13 7 = 20 ∧ (0 ≤ ((13 : Nat) : Int) + 7) := by decide +kernel
theorem j_Model_zoneOf_17 : mz_t 17 14 = 31 ∧ (0 ≤ ((17 : Nat) : Int) + 14) := by decide +kernel
theorem j_Model_zoneOf_23 : mz_t 23 7 = 30 ∧ (0 ≤ ((23 : Nat) : Int) + 7) := by decide +kernel
theorem j_Model_zoneOf_27 : mz_t 27 4 = 31 ∧ (0 ≤ ((27 : Nat) : Int) + 4) := by decide +kernel
theorem j_Model_zoneOf : mz_t 3 7 = 10 ∧ (0 ≤ ((3 : Nat) : Int) + 7) ∧ mz_t 7 24 = 31 ∧ (0 ≤ ((7 : Nat) : Int) + 24) ∧ mz_t 13 7 = 20 ∧ (0 ≤ ((13 : Nat) : Int) + 7) ∧ mz_t 17 14 = 31 ∧ (0 ≤ ((17 : Nat) : Int) + 14) ∧ mz_t 23 7 = 30 ∧ (0 ≤ ((23 : Nat) : Int) + 7) ∧ mz_t 27 4 = 31 ∧ (0 ≤ ((27 : Nat) : Int) + 4) := by decide +kernel
theorem j_Model_digitOf_3 : mz_t 3 5 = 8 ∧ (0 ≤ ((3 : Nat) : Int) + 5) := by decide +kernel
theorem j_Model_digitOf_11 : mz_t 11 10 = 21 ∧ (0 ≤ ((11 : Nat) : Int) + 10) := by decide +kernel
theorem j_Model_digitOf_18 : mz_t 18 33 = 51 ∧ (0 ≤ ((18 : Nat) : Int) + 33) := by decide +kernel
theorem j_Model_digitOf_24 : mz_t 24 10 = 34 ∧ (0 ≤ ((24 : Nat) : Int) + 10) := by decide +kernel
theorem j_Model_digitOf_31 : mz_t 31 20 = 51 ∧ (0 ≤ ((31 : Nat) : Int) + 20) := by decide +kernel
theorem j_Model_digitOf_37 : mz_t 37 10 = 47 ∧ (0 ≤ ((37 : Nat) : Int) + 10) := by decide +kernel
theorem j_Model_digitOf_44 : mz_t 44 7 = 51 ∧ (0 ≤ ((44 : Nat) : Int) + 7) := by decide +kernel
theorem j_Model_digitOf : mz_t 3 5 = 8 ∧ (0 ≤ ((3 : Nat) : Int) + 5) ∧ mz_t 11 10 = 21 ∧ (0 ≤ ((11 : Nat) : Int) + 10) ∧ mz_t 18 33 = 51 ∧ (0 ≤ ((18 : Nat) : Int) + 33) ∧ mz_t 24 10 = 34 ∧ (0 ≤ ((24 : Nat) : Int) + 10) ∧ mz_t 31 20 = 51 ∧ (0 ≤ ((31 : Nat) : Int) + 20) ∧ mz_t 37 10 = 47 ∧ (0 ≤ ((37 : Nat) : Int) + 10) ∧ mz_t 44 7 = 51 ∧ (0 ≤ ((44 : Nat) : Int) + 7) := by decide +kernel
theorem j_Model_sort_5 : mz_t 5 15 = 20 ∧ (0 ≤ ((5 : Nat) : Int) + 15) := by decide +kernel
theorem j_Model_sort_13 : mz_t 13 7 = 20 ∧ (0 ≤ ((13 : Nat) : Int) + 7) := by decide +kernel
theorem j_Model_sort_17 : mz_t 17 4 = 21 ∧ (0 ≤ ((17 : Nat) : Int) + 4) := by decide +kernel
theorem j_Model_sort_28 : mz_t 28 13 = 41 ∧ (0 ≤ ((28 : Nat) : Int) + 13) := by decide +kernel
theorem j_Model_sort_38 : mz_t 38 5 = 43 ∧ (0 ≤ ((38 : Nat) : Int) + 5) := by decide +kernel
theorem j_Model_sort_52 : mz_t 52 78 = 130 ∧ (0 ≤ ((52 : Nat) : Int) + 78) := by decide +kernel
theorem j_Model_sort_69 : mz_t 69 40 = 109 ∧ (0 ≤ ((69 : Nat) : Int) + 40) := by decide +kernel
theorem j_Model_sort_74 : mz_t 74 22 = 96 ∧ (0 ≤ ((74 : Nat) : Int) + 22) := by decide +kernel
theorem j_Model_sort_93 : mz_t 93 7 = 100 ∧ (0 ≤ ((93 : Nat) : Int) + 7) := by decide +kernel
theorem j_Model_sort_97 : mz_t 97 4 = 101 ∧ (0 ≤ ((97 : Nat) : Int) + 4) := by decide +kernel
theorem j_Model_sort_106 : mz_t 106 (-45) = 61 ∧ (0 ≤ ((106 : Nat) : Int) + (-45)) := by decide +kernel
theorem j_Model_sort_113 : mz_t 113 7 = 120 ∧ (0 ≤ ((113 : Nat) : Int) + 7) := by decide +kernel
theorem j_Model_sort_117 : mz_t 117 4 = 121 ∧ (0 ≤ ((117 : Nat) : Int) + 4) := by decide +kernel
theorem j_Model_sort_127 : mz_t 127 (-78) = 49 ∧ (0 ≤ ((127 : Nat) : Int) + (-78)) := by decide +kernel
theorem j_Model_sort_141 : mz_t 141 28 = 169 ∧ (0 ≤ ((141 : Nat) : Int) + 28) := by decide +kernel
theorem j_Model_sort_166 : mz_t 166 (-33) = 133 ∧ (0 ≤ ((166 : Nat) : Int) + (-33)) := by decide +kernel
theorem j_Model_sort_180 : mz_t 180 29 = 209 ∧ (0 ≤ ((180 : Nat) : Int) + 29) := by decide +kernel
theorem j_Model_sort_206 : mz_t 206 (-34) = 172 ∧ (0 ≤ ((206 : Nat) : Int) + (-34)) := by decide +kernel
theorem j_Model_sort : mz_t 5 15 = 20 ∧ (0 ≤ ((5 : Nat) : Int) + 15) ∧ mz_t 13 7 = 20 ∧ (0 ≤ ((13 : Nat) : Int) + 7) ∧ mz_t 17 4 = 21 ∧ (0 ≤ ((17 : Nat) : Int) + 4) ∧ mz_t 28 13 = 41 ∧ (0 ≤ ((28 : Nat) : Int) + 13) ∧ mz_t 38 5 = 43 ∧ (0 ≤ ((38 : Nat) : Int) + 5) ∧ mz_t 52 78 = 130 ∧ (0 ≤ ((52 : Nat) : Int) + 78) ∧ mz_t 69 40 = 109 ∧ (0 ≤ ((69 : Nat) : Int) + 40) ∧ mz_t 74 22 = 96 ∧ (0 ≤ ((74 : Nat) : Int) + 22) ∧ mz_t 93 7 = 100 ∧ (0 ≤ ((93 : Nat) : Int) + 7) ∧ mz_t 97 4 = 101 ∧ (0 ≤ ((97 : Nat) : Int) + 4) ∧ mz_t 106 (-45) = 61 ∧ (0 ≤ ((106 : Nat) : Int) + (-45)) ∧ mz_t 113 7 = 120 ∧ (0 ≤ ((113 : Nat) : Int) + 7) ∧ mz_t 117 4 = 121 ∧ (0 ≤ ((117 : Nat) : Int) + 4) ∧ mz_t 127 (-78) = 49 ∧ (0 ≤ ((127 : Nat) : Int) + (-78)) ∧ mz_t 141 28 = 169 ∧ (0 ≤ ((141 : Nat) : Int) + 28) ∧ mz_t 166 (-33) = 133 ∧ (0 ≤ ((166 : Nat) : Int) + (-33)) ∧ mz_t 180 29 = 209 ∧ (0 ≤ ((180 : Nat) : Int) + 29) ∧ mz_t 206 (-34) = 172 ∧ (0 ≤ ((206 : Nat) : Int) + (-34)) := by decide +kernel
theorem j_Model_isField_1 : mz_t 1 18 = 19 ∧ (0 ≤ ((1 : Nat) : Int) + 18) := by decide +kernel
theorem j_Model_isField_6 : mz_t 6 13 = 19 ∧ (0 ≤ ((6 : Nat) : Int) + 13) := by decide +kernel
theorem j_Model_isField_12 : mz_t 12 7 = 19 ∧ (0 ≤ ((12 : Nat) : Int) + 7) := by decide +kernel
theorem j_Model_isField_16 : mz_t 16 4 = 20 ∧ (0 ≤ ((16 : Nat) : Int) + 4) := by decide +kernel
theorem j_Model_isField : mz_t 1 18 = 19 ∧ (0 ≤ ((1 : Nat) : Int) + 18) ∧ mz_t 6 13 = 19 ∧ (0 ≤ ((6 : Nat) : Int) + 13) ∧ mz_t 12 7 = 19 ∧ (0 ≤ ((12 : Nat) : Int) + 7) ∧ mz_t 16 4 = 20 ∧ (0 ≤ ((16 : Nat) : Int) + 4) := by decide +kernel
theorem j_Model_isSorted_14 : mz_t 14 46 = 60 ∧ (0 ≤ ((14 : Nat) : Int) + 46) := by decide +kernel
theorem j_Model_isSorted_19 : mz_t 19 32 = 51 ∧ (0 ≤ ((19 : Nat) : Int) + 32) := by decide +kernel
theorem j_Model_isSorted_44 : mz_t 44 7 = 51 ∧ (0 ≤ ((44 : Nat) : Int) + 7) := by decide +kernel
theorem j_Model_isSorted_48 : mz_t 48 4 = 52 ∧ (0 ≤ ((48 : Nat) : Int) + 4) := by decide +kernel
theorem j_Model_isSorted_57 : mz_t 57 (-51) = 6 ∧ (0 ≤ ((57 : Nat) : Int) + (-51)) := by decide +kernel
theorem j_Model_isSorted : mz_t 14 46 = 60 ∧ (0 ≤ ((14 : Nat) : Int) + 46) ∧ mz_t 19 32 = 51 ∧ (0 ≤ ((19 : Nat) : Int) + 32) ∧ mz_t 44 7 = 51 ∧ (0 ≤ ((44 : Nat) : Int) + 7) ∧ mz_t 48 4 = 52 ∧ (0 ≤ ((48 : Nat) : Int) + 4) ∧ mz_t 57 (-51) = 6 ∧ (0 ≤ ((57 : Nat) : Int) + (-51)) := by decide +kernel
theorem j_Model_compare_7 : mz_t 7 48 = 55 ∧ (0 ≤ ((7 : Nat) : Int) + 48) := by decide +kernel
theorem j_Model_compare_24 : mz_t 24 25 = 49 ∧ (0 ≤ ((24 : Nat) : Int) + 25) := by decide +kernel
theorem j_Model_compare_52 : mz_t 52 (-49) = 3 ∧ (0 ≤ ((52 : Nat) : Int) + (-49)) := by decide +kernel
theorem j_Model_compare : mz_t 7 48 = 55 ∧ (0 ≤ ((7 : Nat) : Int) + 48) ∧ mz_t 24 25 = 49 ∧ (0 ≤ ((24 : Nat) : Int) + 25) ∧ mz_t 52 (-49) = 3 ∧ (0 ≤ ((52 : Nat) : Int) + (-49)) := by decide +kernel
theorem j_Model_putIn_5 : mz_t 5 37 = 42 ∧ (0 ≤ ((5 : Nat) : Int) + 37) := by decide +kernel
theorem j_Model_putIn_23 : mz_t 23 19 = 42 ∧ (0 ≤ ((23 : Nat) : Int) + 19) := by decide +kernel
theorem j_Model_putIn_39 : mz_t 39 (-36) = 3 ∧ (0 ≤ ((39 : Nat) : Int) + (-36)) := by decide +kernel
theorem j_Model_putIn : mz_t 5 37 = 42 ∧ (0 ≤ ((5 : Nat) : Int) + 37) ∧ mz_t 23 19 = 42 ∧ (0 ≤ ((23 : Nat) : Int) + 19) ∧ mz_t 39 (-36) = 3 ∧ (0 ≤ ((39 : Nat) : Int) + (-36)) := by decide +kernel
theorem j_Model_merge_4 : mz_t 4 28 = 32 ∧ (0 ≤ ((4 : Nat) : Int) + 28) := by decide +kernel
theorem j_Model_merge_11 : mz_t 11 21 = 32 ∧ (0 ≤ ((11 : Nat) : Int) + 21) := by decide +kernel
theorem j_Model_merge_16 : mz_t 16 16 = 32 ∧ (0 ≤ ((16 : Nat) : Int) + 16) := by decide +kernel
theorem j_Model_merge_25 : mz_t 25 7 = 32 ∧ (0 ≤ ((25 : Nat) : Int) + 7) := by decide +kernel
theorem j_Model_merge_29 : mz_t 29 4 = 33 ∧ (0 ≤ ((29 : Nat) : Int) + 4) := by decide +kernel
theorem j_Model_merge_38 : mz_t 38 7 = 45 ∧ (0 ≤ ((38 : Nat) : Int) + 7) := by decide +kernel
theorem j_Model_merge_42 : mz_t 42 30 = 72 ∧ (0 ≤ ((42 : Nat) : Int) + 30) := by decide +kernel
theorem j_Model_merge_53 : mz_t 53 14 = 67 ∧ (0 ≤ ((53 : Nat) : Int) + 14) := by decide +kernel
theorem j_Model_merge_64 : mz_t 64 7 = 71 ∧ (0 ≤ ((64 : Nat) : Int) + 7) := by decide +kernel
theorem j_Model_merge_68 : mz_t 68 4 = 72 ∧ (0 ≤ ((68 : Nat) : Int) + 4) := by decide +kernel
theorem j_Model_merge_79 : mz_t 79 5 = 84 ∧ (0 ≤ ((79 : Nat) : Int) + 5) := by decide +kernel
theorem j_Model_merge_95 : mz_t 95 24 = 119 ∧ (0 ≤ ((95 : Nat) : Int) + 24) := by decide +kernel
theorem j_Model_merge_116 : mz_t 116 (-29) = 87 ∧ (0 ≤ ((116 : Nat) : Int) + (-29)) := by decide +kernel
theorem j_Model_merge_138 : mz_t 138 32 = 170 ∧ (0 ≤ ((138 : Nat) : Int) + 32) := by decide +kernel
theorem j_Model_merge_167 : mz_t 167 (-37) = 130 ∧ (0 ≤ ((167 : Nat) : Int) + (-37)) := by decide +kernel
theorem j_Model_merge_177 : mz_t 177 29 = 206 ∧ (0 ≤ ((177 : Nat) : Int) + 29) := by decide +kernel
theorem j_Model_merge_203 : mz_t 203 (-30) = 173 ∧ (0 ≤ ((203 : Nat) : Int) + (-30)) := by decide +kernel
theorem j_Model_merge : mz_t 4 28 = 32 ∧ (0 ≤ ((4 : Nat) : Int) + 28) ∧ mz_t 11 21 = 32 ∧ (0 ≤ ((11 : Nat) : Int) + 21) ∧ mz_t 16 16 = 32 ∧ (0 ≤ ((16 : Nat) : Int) + 16) ∧ mz_t 25 7 = 32 ∧ (0 ≤ ((25 : Nat) : Int) + 7) ∧ mz_t 29 4 = 33 ∧ (0 ≤ ((29 : Nat) : Int) + 4) ∧ mz_t 38 7 = 45 ∧ (0 ≤ ((38 : Nat) : Int) + 7) ∧ mz_t 42 30 = 72 ∧ (0 ≤ ((42 : Nat) : Int) + 30) ∧ mz_t 53 14 = 67 ∧ (0 ≤ ((53 : Nat) : Int) + 14) ∧ mz_t 64 7 = 71 ∧ (0 ≤ ((64 : Nat) : Int) + 7) ∧ mz_t 68 4 = 72 ∧ (0 ≤ ((68 : Nat) : Int) + 4) ∧ mz_t 79 5 = 84 ∧ (0 ≤ ((79 : Nat) : Int) + 5) ∧ mz_t 95 24 = 119 ∧ (0 ≤ ((95 : Nat) : Int) + 24) ∧ mz_t 116 (-29) = 87 ∧ (0 ≤ ((116 : Nat) : Int) + (-29)) ∧ mz_t 138 32 = 170 ∧ (0 ≤ ((138 : Nat) : Int) + 32) ∧ mz_t 167 (-37) = 130 ∧ (0 ≤ ((167 : Nat) : Int) + (-37)) ∧ mz_t 177 29 = 206 ∧ (0 ≤ ((177 : Nat) : Int) + 29) ∧ mz_t 203 (-30) = 173 ∧ (0 ≤ ((203 : Nat) : Int) + (-30)) := by decide +kernel
theorem j_Model_match_4 : mz_t 4 46 = 50 ∧ (0 ≤ ((4 : Nat) : Int) + 46) := by decide +kernel
theorem j_Model_match_11 : mz_t 11 39 = 50 ∧ (0 ≤ ((11 : Nat) : Int) + 39) := by decide +kernel
theorem j_Model_match_18 : mz_t 18 32 = 50 ∧ (0 ≤ ((18 : Nat) : Int) + 32) := by decide +kernel
theorem j_Model_match_23 : mz_t 23 27 = 50 ∧ (0 ≤ ((23 : Nat) : Int) + 27) := by decide +kernel
theorem j_Model_match_28 : mz_t 28 22 = 50 ∧ (0 ≤ ((28 : Nat) : Int) + 22) := by decide +kernel
theorem j_Model_match_33 : mz_t 33 17 = 50 ∧ (0 ≤ ((33 : Nat) : Int) + 17) := by decide +kernel
theorem j_Model_match_43 : mz_t 43 7 = 50 ∧ (0 ≤ ((43 : Nat) : Int) + 7) := by decide +kernel
theorem j_Model_match_47 : mz_t 47 4 = 51 ∧ (0 ≤ ((47 : Nat) : Int) + 4) := by decide +kernel
theorem j_Model_match_56 : mz_t 56 7 = 63 ∧ (0 ≤ ((56 : Nat) : Int) + 7) := by decide +kernel
theorem j_Model_match_60 : mz_t 60 32 = 92 ∧ (0 ≤ ((60 : Nat) : Int) + 32) := by decide +kernel
theorem j_Model_match_72 : mz_t 72 15 = 87 ∧ (0 ≤ ((72 : Nat) : Int) + 15) := by decide +kernel
theorem j_Model_match_84 : mz_t 84 7 = 91 ∧ (0 ≤ ((84 : Nat) : Int) + 7) := by decide +kernel
theorem j_Model_match_88 : mz_t 88 4 = 92 ∧ (0 ≤ ((88 : Nat) : Int) + 4) := by decide +kernel
theorem j_Model_match_99 : mz_t 99 5 = 104 ∧ (0 ≤ ((99 : Nat) : Int) + 5) := by decide +kernel
theorem j_Model_match_160 : mz_t 160 21 = 181 ∧ (0 ≤ ((160 : Nat) : Int) + 21) := by decide +kernel
theorem j_Model_match_178 : mz_t 178 (-22) = 156 ∧ (0 ≤ ((178 : Nat) : Int) + (-22)) := by decide +kernel
theorem j_Model_match : mz_t 4 46 = 50 ∧ (0 ≤ ((4 : Nat) : Int) + 46) ∧ mz_t 11 39 = 50 ∧ (0 ≤ ((11 : Nat) : Int) + 39) ∧ mz_t 18 32 = 50 ∧ (0 ≤ ((18 : Nat) : Int) + 32) ∧ mz_t 23 27 = 50 ∧ (0 ≤ ((23 : Nat) : Int) + 27) ∧ mz_t 28 22 = 50 ∧ (0 ≤ ((28 : Nat) : Int) + 22) ∧ mz_t 33 17 = 50 ∧ (0 ≤ ((33 : Nat) : Int) + 17) ∧ mz_t 43 7 = 50 ∧ (0 ≤ ((43 : Nat) : Int) + 7) ∧ mz_t 47 4 = 51 ∧ (0 ≤ ((47 : Nat) : Int) + 4) ∧ mz_t 56 7 = 63 ∧ (0 ≤ ((56 : Nat) : Int) + 7) ∧ mz_t 60 32 = 92 ∧ (0 ≤ ((60 : Nat) : Int) + 32) ∧ mz_t 72 15 = 87 ∧ (0 ≤ ((72 : Nat) : Int) + 15) ∧ mz_t 84 7 = 91 ∧ (0 ≤ ((84 : Nat) : Int) + 7) ∧ mz_t 88 4 = 92 ∧ (0 ≤ ((88 : Nat) : Int) + 4) ∧ mz_t 99 5 = 104 ∧ (0 ≤ ((99 : Nat) : Int) + 5) ∧ mz_t 160 21 = 181 ∧ (0 ≤ ((160 : Nat) : Int) + 21) ∧ mz_t 178 (-22) = 156 ∧ (0 ≤ ((178 : Nat) : Int) + (-22)) := by decide +kernel
theorem j_Model_take_15 : mz_t 15 50 = 65 ∧ (0 ≤ ((15 : Nat) : Int) + 50) := by decide +kernel
theorem j_Model_take_33 : mz_t 33 26 = 59 ∧ (0 ≤ ((33 : Nat) : Int) + 26) := by decide +kernel
theorem j_Model_take_62 : mz_t 62 (-55) = 7 ∧ (0 ≤ ((62 : Nat) : Int) + (-55)) := by decide +kernel
theorem j_Model_take : mz_t 15 50 = 65 ∧ (0 ≤ ((15 : Nat) : Int) + 50) ∧ mz_t 33 26 = 59 ∧ (0 ≤ ((33 : Nat) : Int) + 26) ∧ mz_t 62 (-55) = 7 ∧ (0 ≤ ((62 : Nat) : Int) + (-55)) := by decide +kernel
theorem j_Model_hasKey_14 : mz_t 14 39 = 53 ∧ (0 ≤ ((14 : Nat) : Int) + 39) := by decide +kernel
theorem j_Model_hasKey_19 : mz_t 19 21 = 40 ∧ (0 ≤ ((19 : Nat) : Int) + 21) := by decide +kernel
theorem j_Model_hasKey_37 : mz_t 37 7 = 44 ∧ (0 ≤ ((37 : Nat) : Int) + 7) := by decide +kernel
theorem j_Model_hasKey_41 : mz_t 41 4 = 45 ∧ (0 ≤ ((41 : Nat) : Int) + 4) := by decide +kernel
theorem j_Model_hasKey_50 : mz_t 50 (-44) = 6 ∧ (0 ≤ ((50 : Nat) : Int) + (-44)) := by decide +kernel
theorem j_Model_hasKey : mz_t 14 39 = 53 ∧ (0 ≤ ((14 : Nat) : Int) + 39) ∧ mz_t 19 21 = 40 ∧ (0 ≤ ((19 : Nat) : Int) + 21) ∧ mz_t 37 7 = 44 ∧ (0 ≤ ((37 : Nat) : Int) + 7) ∧ mz_t 41 4 = 45 ∧ (0 ≤ ((41 : Nat) : Int) + 4) ∧ mz_t 50 (-44) = 6 ∧ (0 ≤ ((50 : Nat) : Int) + (-44)) := by decide +kernel
theorem j_Model_leave_14 : mz_t 14 79 = 93 ∧ (0 ≤ ((14 : Nat) : Int) + 79) := by decide +kernel
theorem j_Model_leave_26 : mz_t 26 38 = 64 ∧ (0 ≤ ((26 : Nat) : Int) + 38) := by decide +kernel
theorem j_Model_leave_31 : mz_t 31 20 = 51 ∧ (0 ≤ ((31 : Nat) : Int) + 20) := by decide +kernel
theorem j_Model_leave_48 : mz_t 48 7 = 55 ∧ (0 ≤ ((48 : Nat) : Int) + 7) := by decide +kernel
theorem j_Model_leave_52 : mz_t 52 4 = 56 ∧ (0 ≤ ((52 : Nat) : Int) + 4) := by decide +kernel
theorem j_Model_leave_61 : mz_t 61 (-38) = 23 ∧ (0 ≤ ((61 : Nat) : Int) + (-38)) := by decide +kernel
theorem j_Model_leave_66 : mz_t 66 21 = 87 ∧ (0 ≤ ((66 : Nat) : Int) + 21) := by decide +kernel
theorem j_Model_leave_90 : mz_t 90 (-84) = 6 ∧ (0 ≤ ((90 : Nat) : Int) + (-84)) := by decide +kernel
theorem j_Model_leave_108 : mz_t 108 29 = 137 ∧ (0 ≤ ((108 : Nat) : Int) + 29) := by decide +kernel
theorem j_Model_leave_134 : mz_t 134 (-30) = 104 ∧ (0 ≤ ((134 : Nat) : Int) + (-30)) := by decide +kernel
theorem j_Model_leave : mz_t 14 79 = 93 ∧ (0 ≤ ((14 : Nat) : Int) + 79) ∧ mz_t 26 38 = 64 ∧ (0 ≤ ((26 : Nat) : Int) + 38) ∧ mz_t 31 20 = 51 ∧ (0 ≤ ((31 : Nat) : Int) + 20) ∧ mz_t 48 7 = 55 ∧ (0 ≤ ((48 : Nat) : Int) + 7) ∧ mz_t 52 4 = 56 ∧ (0 ≤ ((52 : Nat) : Int) + 4) ∧ mz_t 61 (-38) = 23 ∧ (0 ≤ ((61 : Nat) : Int) + (-38)) ∧ mz_t 66 21 = 87 ∧ (0 ≤ ((66 : Nat) : Int) + 21) ∧ mz_t 90 (-84) = 6 ∧ (0 ≤ ((90 : Nat) : Int) + (-84)) ∧ mz_t 108 29 = 137 ∧ (0 ≤ ((108 : Nat) : Int) + 29) ∧ mz_t 134 (-30) = 104 ∧ (0 ≤ ((134 : Nat) : Int) + (-30)) := by decide +kernel
theorem j_Model_reproduce_5 : mz_t 5 26 = 31 ∧ (0 ≤ ((5 : Nat) : Int) + 26) := by decide +kernel
theorem j_Model_reproduce_12 : mz_t 12 19 = 31 ∧ (0 ≤ ((12 : Nat) : Int) + 19) := by decide +kernel
theorem j_Model_reproduce_19 : mz_t 19 12 = 31 ∧ (0 ≤ ((19 : Nat) : Int) + 12) := by decide +kernel
theorem j_Model_reproduce_24 : mz_t 24 7 = 31 ∧ (0 ≤ ((24 : Nat) : Int) + 7) := by decide +kernel
theorem j_Model_reproduce_28 : mz_t 28 4 = 32 ∧ (0 ≤ ((28 : Nat) : Int) + 4) := by decide +kernel
theorem j_Model_reproduce_39 : mz_t 39 5 = 44 ∧ (0 ≤ ((39 : Nat) : Int) + 5) := by decide +kernel
theorem j_Model_reproduce_55 : mz_t 55 162 = 217 ∧ (0 ≤ ((55 : Nat) : Int) + 162) := by decide +kernel
theorem j_Model_reproduce_68 : mz_t 68 40 = 108 ∧ (0 ≤ ((68 : Nat) : Int) + 40) := by decide +kernel
theorem j_Model_reproduce_73 : mz_t 73 22 = 95 ∧ (0 ≤ ((73 : Nat) : Int) + 22) := by decide +kernel
theorem j_Model_reproduce_92 : mz_t 92 7 = 99 ∧ (0 ≤ ((92 : Nat) : Int) + 7) := by decide +kernel
theorem j_Model_reproduce_96 : mz_t 96 4 = 100 ∧ (0 ≤ ((96 : Nat) : Int) + 4) := by decide +kernel
theorem j_Model_reproduce_105 : mz_t 105 (-41) = 64 ∧ (0 ≤ ((105 : Nat) : Int) + (-41)) := by decide +kernel
theorem j_Model_reproduce_110 : mz_t 110 13 = 123 ∧ (0 ≤ ((110 : Nat) : Int) + 13) := by decide +kernel
theorem j_Model_reproduce_120 : mz_t 120 20 = 140 ∧ (0 ≤ ((120 : Nat) : Int) + 20) := by decide +kernel
theorem j_Model_reproduce_126 : mz_t 126 7 = 133 ∧ (0 ≤ ((126 : Nat) : Int) + 7) := by decide +kernel
theorem j_Model_reproduce_130 : mz_t 130 4 = 134 ∧ (0 ≤ ((130 : Nat) : Int) + 4) := by decide +kernel
theorem j_Model_reproduce_153 : mz_t 153 51 = 204 ∧ (0 ≤ ((153 : Nat) : Int) + 51) := by decide +kernel
theorem j_Model_reproduce_186 : mz_t 186 8 = 194 ∧ (0 ≤ ((186 : Nat) : Int) + 8) := by decide +kernel
theorem j_Model_reproduce_191 : mz_t 191 5 = 196 ∧ (0 ≤ ((191 : Nat) : Int) + 5) := by decide +kernel
theorem j_Model_reproduce_201 : mz_t 201 (-52) = 149 ∧ (0 ≤ ((201 : Nat) : Int) + (-52)) := by decide +kernel
theorem j_Model_reproduce_214 : mz_t 214 (-167) = 47 ∧ (0 ≤ ((214 : Nat) : Int) + (-167)) := by decide +kernel
theorem j_Model_reproduce : mz_t 5 26 = 31 ∧ (0 ≤ ((5 : Nat) : Int) + 26) ∧ mz_t 12 19 = 31 ∧ (0 ≤ ((12 : Nat) : Int) + 19) ∧ mz_t 19 12 = 31 ∧ (0 ≤ ((19 : Nat) : Int) + 12) ∧ mz_t 24 7 = 31 ∧ (0 ≤ ((24 : Nat) : Int) + 7) ∧ mz_t 28 4 = 32 ∧ (0 ≤ ((28 : Nat) : Int) + 4) ∧ mz_t 39 5 = 44 ∧ (0 ≤ ((39 : Nat) : Int) + 5) ∧ mz_t 55 162 = 217 ∧ (0 ≤ ((55 : Nat) : Int) + 162) ∧ mz_t 68 40 = 108 ∧ (0 ≤ ((68 : Nat) : Int) + 40) ∧ mz_t 73 22 = 95 ∧ (0 ≤ ((73 : Nat) : Int) + 22) ∧ mz_t 92 7 = 99 ∧ (0 ≤ ((92 : Nat) : Int) + 7) ∧ mz_t 96 4 = 100 ∧ (0 ≤ ((96 : Nat) : Int) + 4) ∧ mz_t 105 (-41) = 64 ∧ (0 ≤ ((105 : Nat) : Int) + (-41)) ∧ mz_t 110 13 = 123 ∧ (0 ≤ ((110 : Nat) : Int) + 13) ∧ mz_t 120 20 = 140 ∧ (0 ≤ ((120 : Nat) : Int) + 20) ∧ mz_t 126 7 = 133 ∧ (0 ≤ ((126 : Nat) : Int) + 7) ∧ mz_t 130 4 = 134 ∧ (0 ≤ ((130 : Nat) : Int) + 4) ∧ mz_t 153 51 = 204 ∧ (0 ≤ ((153 : Nat) : Int) + 51) ∧ mz_t 186 8 = 194 ∧ (0 ≤ ((186 : Nat) : Int) + 8) ∧ mz_t 191 5 = 196 ∧ (0 ≤ ((191 : Nat) : Int) + 5) ∧ mz_t 201 (-52) = 149 ∧ (0 ≤ ((201 : Nat) : Int) + (-52)) ∧ mz_t 214 (-167) = 47 ∧ (0 ≤ ((214 : Nat) : Int) + (-167)) := by decide +kernel
theorem j_Model_arrives_22 : mz_t 22 65 = 87 ∧ (0 ≤ ((22 : Nat) : Int) + 65) := by decide +kernel
theorem j_Model_arrives_33 : mz_t 33 13 = 46 ∧ (0 ≤ ((33 : Nat) : Int) + 13) := by decide +kernel
theorem j_Model_arrives_43 : mz_t 43 4 = 47 ∧ (0 ≤ ((43 : Nat) : Int) + 4) := by decide +kernel
theorem j_Model_arrives_51 : mz_t 51 10 = 61 ∧ (0 ≤ ((51 : Nat) : Int) + 10) := by decide +kernel
theorem j_Model_arrives_58 : mz_t 58 8 = 66 ∧ (0 ≤ ((58 : Nat) : Int) + 8) := by decide +kernel
theorem j_Model_arrives_63 : mz_t 63 16 = 79 ∧ (0 ≤ ((63 : Nat) : Int) + 16) := by decide +kernel
theorem j_Model_arrives_69 : mz_t 69 8 = 77 ∧ (0 ≤ ((69 : Nat) : Int) + 8) := by decide +kernel
theorem j_Model_arrives_74 : mz_t 74 5 = 79 ∧ (0 ≤ ((74 : Nat) : Int) + 5) := by decide +kernel
theorem j_Model_arrives_84 : mz_t 84 (-75) = 9 ∧ (0 ≤ ((84 : Nat) : Int) + (-75)) := by decide +kernel
theorem j_Model_arrives : mz_t 22 65 = 87 ∧ (0 ≤ ((22 : Nat) : Int) + 65) ∧ mz_t 33 13 = 46 ∧ (0 ≤ ((33 : Nat) : Int) + 13) ∧ mz_t 43 4 = 47 ∧ (0 ≤ ((43 : Nat) : Int) + 4) ∧ mz_t 51 10 = 61 ∧ (0 ≤ ((51 : Nat) : Int) + 10) ∧ mz_t 58 8 = 66 ∧ (0 ≤ ((58 : Nat) : Int) + 8) ∧ mz_t 63 16 = 79 ∧ (0 ≤ ((63 : Nat) : Int) + 16) ∧ mz_t 69 8 = 77 ∧ (0 ≤ ((69 : Nat) : Int) + 8) ∧ mz_t 74 5 = 79 ∧ (0 ≤ ((74 : Nat) : Int) + 5) ∧ mz_t 84 (-75) = 9 ∧ (0 ≤ ((84 : Nat) : Int) + (-75)) := by decide +kernel
theorem j_Model_brings_10 : mz_t 10 20 = 30 ∧ (0 ≤ ((10 : Nat) : Int) + 20) := by decide +kernel
theorem j_Model_brings_14 : mz_t 14 7 = 21 ∧ (0 ≤ ((14 : Nat) : Int) + 7) := by decide +kernel
theorem j_Model_brings_18 : mz_t 18 26 = 44 ∧ (0 ≤ ((18 : Nat) : Int) + 26) := by decide +kernel
theorem j_Model_brings_27 : mz_t 27 17 = 44 ∧ (0 ≤ ((27 : Nat) : Int) + 17) := by decide +kernel
theorem j_Model_brings_33 : mz_t 33 10 = 43 ∧ (0 ≤ ((33 : Nat) : Int) + 10) := by decide +kernel
theorem j_Model_brings_40 : mz_t 40 4 = 44 ∧ (0 ≤ ((40 : Nat) : Int) + 4) := by decide +kernel
theorem j_Model_brings : mz_t 10 20 = 30 ∧ (0 ≤ ((10 : Nat) : Int) + 20) ∧ mz_t 14 7 = 21 ∧ (0 ≤ ((14 : Nat) : Int) + 7) ∧ mz_t 18 26 = 44 ∧ (0 ≤ ((18 : Nat) : Int) + 26) ∧ mz_t 27 17 = 44 ∧ (0 ≤ ((27 : Nat) : Int) + 17) ∧ mz_t 33 10 = 43 ∧ (0 ≤ ((33 : Nat) : Int) + 10) ∧ mz_t 40 4 = 44 ∧ (0 ≤ ((40 : Nat) : Int) + 4) := by decide +kernel
theorem j_Model_gang_5 : mz_t 5 21 = 26 ∧ (0 ≤ ((5 : Nat) : Int) + 21) := by decide +kernel
theorem j_Model_gang_12 : mz_t 12 14 = 26 ∧ (0 ≤ ((12 : Nat) : Int) + 14) := by decide +kernel
theorem j_Model_gang_19 : mz_t 19 7 = 26 ∧ (0 ≤ ((19 : Nat) : Int) + 7) := by decide +kernel
theorem j_Model_gang_23 : mz_t 23 4 = 27 ∧ (0 ≤ ((23 : Nat) : Int) + 4) := by decide +kernel
theorem j_Model_gang_34 : mz_t 34 5 = 39 ∧ (0 ≤ ((34 : Nat) : Int) + 5) := by decide +kernel
theorem j_Model_gang_53 : mz_t 53 133 = 186 ∧ (0 ≤ ((53 : Nat) : Int) + 133) := by decide +kernel
theorem j_Model_gang_76 : mz_t 76 10 = 86 ∧ (0 ≤ ((76 : Nat) : Int) + 10) := by decide +kernel
theorem j_Model_gang_83 : mz_t 83 97 = 180 ∧ (0 ≤ ((83 : Nat) : Int) + 97) := by decide +kernel
theorem j_Model_gang_88 : mz_t 88 92 = 180 ∧ (0 ≤ ((88 : Nat) : Int) + 92) := by decide +kernel
theorem j_Model_gang_104 : mz_t 104 12 = 116 ∧ (0 ≤ ((104 : Nat) : Int) + 12) := by decide +kernel
theorem j_Model_gang_123 : mz_t 123 57 = 180 ∧ (0 ≤ ((123 : Nat) : Int) + 57) := by decide +kernel
theorem j_Model_gang_151 : mz_t 151 19 = 170 ∧ (0 ≤ ((151 : Nat) : Int) + 19) := by decide +kernel
theorem j_Model_gang_167 : mz_t 167 6 = 173 ∧ (0 ≤ ((167 : Nat) : Int) + 6) := by decide +kernel
theorem j_Model_gang_177 : mz_t 177 (-58) = 119 ∧ (0 ≤ ((177 : Nat) : Int) + (-58)) := by decide +kernel
theorem j_Model_gang_183 : mz_t 183 (-138) = 45 ∧ (0 ≤ ((183 : Nat) : Int) + (-138)) := by decide +kernel
theorem j_Model_gang : mz_t 5 21 = 26 ∧ (0 ≤ ((5 : Nat) : Int) + 21) ∧ mz_t 12 14 = 26 ∧ (0 ≤ ((12 : Nat) : Int) + 14) ∧ mz_t 19 7 = 26 ∧ (0 ≤ ((19 : Nat) : Int) + 7) ∧ mz_t 23 4 = 27 ∧ (0 ≤ ((23 : Nat) : Int) + 4) ∧ mz_t 34 5 = 39 ∧ (0 ≤ ((34 : Nat) : Int) + 5) ∧ mz_t 53 133 = 186 ∧ (0 ≤ ((53 : Nat) : Int) + 133) ∧ mz_t 76 10 = 86 ∧ (0 ≤ ((76 : Nat) : Int) + 10) ∧ mz_t 83 97 = 180 ∧ (0 ≤ ((83 : Nat) : Int) + 97) ∧ mz_t 88 92 = 180 ∧ (0 ≤ ((88 : Nat) : Int) + 92) ∧ mz_t 104 12 = 116 ∧ (0 ≤ ((104 : Nat) : Int) + 12) ∧ mz_t 123 57 = 180 ∧ (0 ≤ ((123 : Nat) : Int) + 57) ∧ mz_t 151 19 = 170 ∧ (0 ≤ ((151 : Nat) : Int) + 19) ∧ mz_t 167 6 = 173 ∧ (0 ≤ ((167 : Nat) : Int) + 6) ∧ mz_t 177 (-58) = 119 ∧ (0 ≤ ((177 : Nat) : Int) + (-58)) ∧ mz_t 183 (-138) = 45 ∧ (0 ≤ ((183 : Nat) : Int) + (-138)) := by decide +kernel
theorem j_Model_faultOfGang_25 : mz_t 25 105 = 130 ∧ (0 ≤ ((25 : Nat) : Int) + 105) := by decide +kernel
theorem j_Model_faultOfGang_46 : mz_t 46 78 = 124 ∧ (0 ≤ ((46 : Nat) : Int) + 78) := by decide +kernel
theorem j_Model_faultOfGang_51 : mz_t 51 73 = 124 ∧ (0 ≤ ((51 : Nat) : Int) + 73) := by decide +kernel
theorem j_Model_faultOfGang_70 : mz_t 70 17 = 87 ∧ (0 ≤ ((70 : Nat) : Int) + 17) := by decide +kernel
theorem j_Model_faultOfGang_77 : mz_t 77 14 = 91 ∧ (0 ≤ ((77 : Nat) : Int) + 14) := by decide +kernel
theorem j_Model_faultOfGang_84 : mz_t 84 7 = 91 ∧ (0 ≤ ((84 : Nat) : Int) + 7) := by decide +kernel
theorem j_Model_faultOfGang_88 : mz_t 88 4 = 92 ∧ (0 ≤ ((88 : Nat) : Int) + 4) := by decide +kernel
theorem j_Model_faultOfGang_96 : mz_t 96 21 = 117 ∧ (0 ≤ ((96 : Nat) : Int) + 21) := by decide +kernel
theorem j_Model_faultOfGang_114 : mz_t 114 7 = 121 ∧ (0 ≤ ((114 : Nat) : Int) + 7) := by decide +kernel
theorem j_Model_faultOfGang_118 : mz_t 118 4 = 122 ∧ (0 ≤ ((118 : Nat) : Int) + 4) := by decide +kernel
theorem j_Model_faultOfGang_127 : mz_t 127 (-115) = 12 ∧ (0 ≤ ((127 : Nat) : Int) + (-115)) := by decide +kernel
theorem j_Model_faultOfGang_132 : mz_t 132 7 = 139 ∧ (0 ≤ ((132 : Nat) : Int) + 7) := by decide +kernel
theorem j_Model_faultOfGang_136 : mz_t 136 13 = 149 ∧ (0 ≤ ((136 : Nat) : Int) + 13) := by decide +kernel
theorem j_Model_faultOfGang_141 : mz_t 141 7 = 148 ∧ (0 ≤ ((141 : Nat) : Int) + 7) := by decide +kernel
theorem j_Model_faultOfGang_145 : mz_t 145 4 = 149 ∧ (0 ≤ ((145 : Nat) : Int) + 4) := by decide +kernel
theorem j_Model_faultOfGang : mz_t 25 105 = 130 ∧ (0 ≤ ((25 : Nat) : Int) + 105) ∧ mz_t 46 78 = 124 ∧ (0 ≤ ((46 : Nat) : Int) + 78) ∧ mz_t 51 73 = 124 ∧ (0 ≤ ((51 : Nat) : Int) + 73) ∧ mz_t 70 17 = 87 ∧ (0 ≤ ((70 : Nat) : Int) + 17) ∧ mz_t 77 14 = 91 ∧ (0 ≤ ((77 : Nat) : Int) + 14) ∧ mz_t 84 7 = 91 ∧ (0 ≤ ((84 : Nat) : Int) + 7) ∧ mz_t 88 4 = 92 ∧ (0 ≤ ((88 : Nat) : Int) + 4) ∧ mz_t 96 21 = 117 ∧ (0 ≤ ((96 : Nat) : Int) + 21) ∧ mz_t 114 7 = 121 ∧ (0 ≤ ((114 : Nat) : Int) + 7) ∧ mz_t 118 4 = 122 ∧ (0 ≤ ((118 : Nat) : Int) + 4) ∧ mz_t 127 (-115) = 12 ∧ (0 ≤ ((127 : Nat) : Int) + (-115)) ∧ mz_t 132 7 = 139 ∧ (0 ≤ ((132 : Nat) : Int) + 7) ∧ mz_t 136 13 = 149 ∧ (0 ≤ ((136 : Nat) : Int) + 13) ∧ mz_t 141 7 = 148 ∧ (0 ≤ ((141 : Nat) : Int) + 7) ∧ mz_t 145 4 = 149 ∧ (0 ≤ ((145 : Nat) : Int) + 4) := by decide +kernel
theorem j_Model_multiply_4 : mz_t 4 47 = 51 ∧ (0 ≤ ((4 : Nat) : Int) + 47) := by decide +kernel
theorem j_Model_multiply_11 : mz_t 11 40 = 51 ∧ (0 ≤ ((11 : Nat) : Int) + 40) := by decide +kernel
theorem j_Model_multiply_18 : mz_t 18 33 = 51 ∧ (0 ≤ ((18 : Nat) : Int) + 33) := by decide +kernel
theorem j_Model_multiply_26 : mz_t 26 25 = 51 ∧ (0 ≤ ((26 : Nat) : Int) + 25) := by decide +kernel
theorem j_Model_multiply_35 : mz_t 35 16 = 51 ∧ (0 ≤ ((35 : Nat) : Int) + 16) := by decide +kernel
theorem j_Model_multiply_44 : mz_t 44 7 = 51 ∧ (0 ≤ ((44 : Nat) : Int) + 7) := by decide +kernel
theorem j_Model_multiply_48 : mz_t 48 4 = 52 ∧ (0 ≤ ((48 : Nat) : Int) + 4) := by decide +kernel
theorem j_Model_multiply_57 : mz_t 57 7 = 64 ∧ (0 ≤ ((57 : Nat) : Int) + 7) := by decide +kernel
theorem j_Model_multiply_61 : mz_t 61 4 = 65 ∧ (0 ≤ ((61 : Nat) : Int) + 4) := by decide +kernel
theorem j_Model_multiply_70 : mz_t 70 5 = 75 ∧ (0 ≤ ((70 : Nat) : Int) + 5) := by decide +kernel
theorem j_Model_multiply_86 : mz_t 86 142 = 228 ∧ (0 ≤ ((86 : Nat) : Int) + 142) := by decide +kernel
theorem j_Model_multiply_118 : mz_t 118 8 = 126 ∧ (0 ≤ ((118 : Nat) : Int) + 8) := by decide +kernel
theorem j_Model_multiply_123 : mz_t 123 11 = 134 ∧ (0 ≤ ((123 : Nat) : Int) + 11) := by decide +kernel
theorem j_Model_multiply_164 : mz_t 164 7 = 171 ∧ (0 ≤ ((164 : Nat) : Int) + 7) := by decide +kernel
theorem j_Model_multiply_168 : mz_t 168 4 = 172 ∧ (0 ≤ ((168 : Nat) : Int) + 4) := by decide +kernel
theorem j_Model_multiply_176 : mz_t 176 11 = 187 ∧ (0 ≤ ((176 : Nat) : Int) + 11) := by decide +kernel
theorem j_Model_multiply_198 : mz_t 198 11 = 209 ∧ (0 ≤ ((198 : Nat) : Int) + 11) := by decide +kernel
theorem j_Model_multiply_225 : mz_t 225 (-147) = 78 ∧ (0 ≤ ((225 : Nat) : Int) + (-147)) := by decide +kernel
theorem j_Model_multiply : mz_t 4 47 = 51 ∧ (0 ≤ ((4 : Nat) : Int) + 47) ∧ mz_t 11 40 = 51 ∧ (0 ≤ ((11 : Nat) : Int) + 40) ∧ mz_t 18 33 = 51 ∧ (0 ≤ ((18 : Nat) : Int) + 33) ∧ mz_t 26 25 = 51 ∧ (0 ≤ ((26 : Nat) : Int) + 25) ∧ mz_t 35 16 = 51 ∧ (0 ≤ ((35 : Nat) : Int) + 16) ∧ mz_t 44 7 = 51 ∧ (0 ≤ ((44 : Nat) : Int) + 7) ∧ mz_t 48 4 = 52 ∧ (0 ≤ ((48 : Nat) : Int) + 4) ∧ mz_t 57 7 = 64 ∧ (0 ≤ ((57 : Nat) : Int) + 7) ∧ mz_t 61 4 = 65 ∧ (0 ≤ ((61 : Nat) : Int) + 4) ∧ mz_t 70 5 = 75 ∧ (0 ≤ ((70 : Nat) : Int) + 5) ∧ mz_t 86 142 = 228 ∧ (0 ≤ ((86 : Nat) : Int) + 142) ∧ mz_t 118 8 = 126 ∧ (0 ≤ ((118 : Nat) : Int) + 8) ∧ mz_t 123 11 = 134 ∧ (0 ≤ ((123 : Nat) : Int) + 11) ∧ mz_t 164 7 = 171 ∧ (0 ≤ ((164 : Nat) : Int) + 7) ∧ mz_t 168 4 = 172 ∧ (0 ≤ ((168 : Nat) : Int) + 4) ∧ mz_t 176 11 = 187 ∧ (0 ≤ ((176 : Nat) : Int) + 11) ∧ mz_t 198 11 = 209 ∧ (0 ≤ ((198 : Nat) : Int) + 11) ∧ mz_t 225 (-147) = 78 ∧ (0 ≤ ((225 : Nat) : Int) + (-147)) := by decide +kernel
theorem j_Model_isFactor_1 : mz_t 1 27 = 28 ∧ (0 ≤ ((1 : Nat) : Int) + 27) := by decide +kernel
theorem j_Model_isFactor_7 : mz_t 7 21 = 28 ∧ (0 ≤ ((7 : Nat) : Int) + 21) := by decide +kernel
theorem j_Model_isFactor_21 : mz_t 21 7 = 28 ∧ (0 ≤ ((21 : Nat) : Int) + 7) := by decide +kernel
theorem j_Model_isFactor_25 : mz_t 25 4 = 29 ∧ (0 ≤ ((25 : Nat) : Int) + 4) := by decide +kernel
theorem j_Model_isFactor : mz_t 1 27 = 28 ∧ (0 ≤ ((1 : Nat) : Int) + 27) ∧ mz_t 7 21 = 28 ∧ (0 ≤ ((7 : Nat) : Int) + 21) ∧ mz_t 21 7 = 28 ∧ (0 ≤ ((21 : Nat) : Int) + 7) ∧ mz_t 25 4 = 29 ∧ (0 ≤ ((25 : Nat) : Int) + 4) := by decide +kernel
theorem j_Model_meet_13 : mz_t 13 23 = 36 ∧ (0 ≤ ((13 : Nat) : Int) + 23) := by decide +kernel
theorem j_Model_meet_29 : mz_t 29 7 = 36 ∧ (0 ≤ ((29 : Nat) : Int) + 7) := by decide +kernel
theorem j_Model_meet_33 : mz_t 33 4 = 37 ∧ (0 ≤ ((33 : Nat) : Int) + 4) := by decide +kernel
theorem j_Model_meet : mz_t 13 23 = 36 ∧ (0 ≤ ((13 : Nat) : Int) + 23) ∧ mz_t 29 7 = 36 ∧ (0 ≤ ((29 : Nat) : Int) + 7) ∧ mz_t 33 4 = 37 ∧ (0 ≤ ((33 : Nat) : Int) + 4) := by decide +kernel
theorem j_Model_numberOf_19 : mz_t 19 68 = 87 ∧ (0 ≤ ((19 : Nat) : Int) + 68) := by decide +kernel
theorem j_Model_numberOf_35 : mz_t 35 7 = 42 ∧ (0 ≤ ((35 : Nat) : Int) + 7) := by decide +kernel
theorem j_Model_numberOf_39 : mz_t 39 19 = 58 ∧ (0 ≤ ((39 : Nat) : Int) + 19) := by decide +kernel
theorem j_Model_numberOf_46 : mz_t 46 11 = 57 ∧ (0 ≤ ((46 : Nat) : Int) + 11) := by decide +kernel
theorem j_Model_numberOf_54 : mz_t 54 4 = 58 ∧ (0 ≤ ((54 : Nat) : Int) + 4) := by decide +kernel
theorem j_Model_numberOf_61 : mz_t 61 8 = 69 ∧ (0 ≤ ((61 : Nat) : Int) + 8) := by decide +kernel
theorem j_Model_numberOf_66 : mz_t 66 7 = 73 ∧ (0 ≤ ((66 : Nat) : Int) + 7) := by decide +kernel
theorem j_Model_numberOf_70 : mz_t 70 10 = 80 ∧ (0 ≤ ((70 : Nat) : Int) + 10) := by decide +kernel
theorem j_Model_numberOf_84 : mz_t 84 (-76) = 8 ∧ (0 ≤ ((84 : Nat) : Int) + (-76)) := by decide +kernel
theorem j_Model_numberOf : mz_t 19 68 = 87 ∧ (0 ≤ ((19 : Nat) : Int) + 68) ∧ mz_t 35 7 = 42 ∧ (0 ≤ ((35 : Nat) : Int) + 7) ∧ mz_t 39 19 = 58 ∧ (0 ≤ ((39 : Nat) : Int) + 19) ∧ mz_t 46 11 = 57 ∧ (0 ≤ ((46 : Nat) : Int) + 11) ∧ mz_t 54 4 = 58 ∧ (0 ≤ ((54 : Nat) : Int) + 4) ∧ mz_t 61 8 = 69 ∧ (0 ≤ ((61 : Nat) : Int) + 8) ∧ mz_t 66 7 = 73 ∧ (0 ≤ ((66 : Nat) : Int) + 7) ∧ mz_t 70 10 = 80 ∧ (0 ≤ ((70 : Nat) : Int) + 10) ∧ mz_t 84 (-76) = 8 ∧ (0 ≤ ((84 : Nat) : Int) + (-76)) := by decide +kernel
theorem j_Model_tenTo_6 : mz_t 6 15 = 21 ∧ (0 ≤ ((6 : Nat) : Int) + 15) := by decide +kernel
theorem j_Model_tenTo_18 : mz_t 18 (-14) = 4 ∧ (0 ≤ ((18 : Nat) : Int) + (-14)) := by decide +kernel
theorem j_Model_tenTo : mz_t 6 15 = 21 ∧ (0 ≤ ((6 : Nat) : Int) + 15) ∧ mz_t 18 (-14) = 4 ∧ (0 ≤ ((18 : Nat) : Int) + (-14)) := by decide +kernel
theorem j_Model_punches_23 : mz_t 23 85 = 108 ∧ (0 ≤ ((23 : Nat) : Int) + 85) := by decide +kernel
theorem j_Model_punches_48 : mz_t 48 31 = 79 ∧ (0 ≤ ((48 : Nat) : Int) + 31) := by decide +kernel
theorem j_Model_punches_60 : mz_t 60 15 = 75 ∧ (0 ≤ ((60 : Nat) : Int) + 15) := by decide +kernel
theorem j_Model_punches_72 : mz_t 72 7 = 79 ∧ (0 ≤ ((72 : Nat) : Int) + 7) := by decide +kernel
theorem j_Model_punches_76 : mz_t 76 4 = 80 ∧ (0 ≤ ((76 : Nat) : Int) + 4) := by decide +kernel
theorem j_Model_punches_84 : mz_t 84 18 = 102 ∧ (0 ≤ ((84 : Nat) : Int) + 18) := by decide +kernel
theorem j_Model_punches_105 : mz_t 105 (-88) = 17 ∧ (0 ≤ ((105 : Nat) : Int) + (-88)) := by decide +kernel
theorem j_Model_punches : mz_t 23 85 = 108 ∧ (0 ≤ ((23 : Nat) : Int) + 85) ∧ mz_t 48 31 = 79 ∧ (0 ≤ ((48 : Nat) : Int) + 31) ∧ mz_t 60 15 = 75 ∧ (0 ≤ ((60 : Nat) : Int) + 15) ∧ mz_t 72 7 = 79 ∧ (0 ≤ ((72 : Nat) : Int) + 7) ∧ mz_t 76 4 = 80 ∧ (0 ≤ ((76 : Nat) : Int) + 4) ∧ mz_t 84 18 = 102 ∧ (0 ≤ ((84 : Nat) : Int) + 18) ∧ mz_t 105 (-88) = 17 ∧ (0 ≤ ((105 : Nat) : Int) + (-88)) := by decide +kernel
theorem j_Model_tabulate_5 : mz_t 5 14 = 19 ∧ (0 ≤ ((5 : Nat) : Int) + 14) := by decide +kernel
theorem j_Model_tabulate_12 : mz_t 12 7 = 19 ∧ (0 ≤ ((12 : Nat) : Int) + 7) := by decide +kernel
theorem j_Model_tabulate_16 : mz_t 16 4 = 20 ∧ (0 ≤ ((16 : Nat) : Int) + 4) := by decide +kernel
theorem j_Model_tabulate_27 : mz_t 27 5 = 32 ∧ (0 ≤ ((27 : Nat) : Int) + 5) := by decide +kernel
theorem j_Model_tabulate_36 : mz_t 36 16 = 52 ∧ (0 ≤ ((36 : Nat) : Int) + 16) := by decide +kernel
theorem j_Model_tabulate_49 : mz_t 49 (-15) = 34 ∧ (0 ≤ ((49 : Nat) : Int) + (-15)) := by decide +kernel
theorem j_Model_tabulate_65 : mz_t 65 113 = 178 ∧ (0 ≤ ((65 : Nat) : Int) + 113) := by decide +kernel
theorem j_Model_tabulate_77 : mz_t 77 51 = 128 ∧ (0 ≤ ((77 : Nat) : Int) + 51) := by decide +kernel
theorem j_Model_tabulate_82 : mz_t 82 46 = 128 ∧ (0 ≤ ((82 : Nat) : Int) + 46) := by decide +kernel
theorem j_Model_tabulate_108 : mz_t 108 10 = 118 ∧ (0 ≤ ((108 : Nat) : Int) + 10) := by decide +kernel
theorem j_Model_tabulate_115 : mz_t 115 5 = 120 ∧ (0 ≤ ((115 : Nat) : Int) + 5) := by decide +kernel
theorem j_Model_tabulate_125 : mz_t 125 (-51) = 74 ∧ (0 ≤ ((125 : Nat) : Int) + (-51)) := by decide +kernel
theorem j_Model_tabulate_146 : mz_t 146 12 = 158 ∧ (0 ≤ ((146 : Nat) : Int) + 12) := by decide +kernel
theorem j_Model_tabulate_175 : mz_t 175 (-113) = 62 ∧ (0 ≤ ((175 : Nat) : Int) + (-113)) := by decide +kernel
theorem j_Model_tabulate_179 : mz_t 179 11 = 190 ∧ (0 ≤ ((179 : Nat) : Int) + 11) := by decide +kernel
theorem j_Model_tabulate_187 : mz_t 187 4 = 191 ∧ (0 ≤ ((187 : Nat) : Int) + 4) := by decide +kernel
theorem j_Model_tabulate_195 : mz_t 195 11 = 206 ∧ (0 ≤ ((195 : Nat) : Int) + 11) := by decide +kernel
theorem j_Model_tabulate_212 : mz_t 212 20 = 232 ∧ (0 ≤ ((212 : Nat) : Int) + 20) := by decide +kernel
theorem j_Model_tabulate_216 : mz_t 216 16 = 232 ∧ (0 ≤ ((216 : Nat) : Int) + 16) := by decide +kernel
theorem j_Model_tabulate_229 : mz_t 229 (-20) = 209 ∧ (0 ≤ ((229 : Nat) : Int) + (-20)) := by decide +kernel
theorem j_Model_tabulate : mz_t 5 14 = 19 ∧ (0 ≤ ((5 : Nat) : Int) + 14) ∧ mz_t 12 7 = 19 ∧ (0 ≤ ((12 : Nat) : Int) + 7) ∧ mz_t 16 4 = 20 ∧ (0 ≤ ((16 : Nat) : Int) + 4) ∧ mz_t 27 5 = 32 ∧ (0 ≤ ((27 : Nat) : Int) + 5) ∧ mz_t 36 16 = 52 ∧ (0 ≤ ((36 : Nat) : Int) + 16) ∧ mz_t 49 (-15) = 34 ∧ (0 ≤ ((49 : Nat) : Int) + (-15)) ∧ mz_t 65 113 = 178 ∧ (0 ≤ ((65 : Nat) : Int) + 113) ∧ mz_t 77 51 = 128 ∧ (0 ≤ ((77 : Nat) : Int) + 51) ∧ mz_t 82 46 = 128 ∧ (0 ≤ ((82 : Nat) : Int) + 46) ∧ mz_t 108 10 = 118 ∧ (0 ≤ ((108 : Nat) : Int) + 10) ∧ mz_t 115 5 = 120 ∧ (0 ≤ ((115 : Nat) : Int) + 5) ∧ mz_t 125 (-51) = 74 ∧ (0 ≤ ((125 : Nat) : Int) + (-51)) ∧ mz_t 146 12 = 158 ∧ (0 ≤ ((146 : Nat) : Int) + 12) ∧ mz_t 175 (-113) = 62 ∧ (0 ≤ ((175 : Nat) : Int) + (-113)) ∧ mz_t 179 11 = 190 ∧ (0 ≤ ((179 : Nat) : Int) + 11) ∧ mz_t 187 4 = 191 ∧ (0 ≤ ((187 : Nat) : Int) + 4) ∧ mz_t 195 11 = 206 ∧ (0 ≤ ((195 : Nat) : Int) + 11) ∧ mz_t 212 20 = 232 ∧ (0 ≤ ((212 : Nat) : Int) + 20) ∧ mz_t 216 16 = 232 ∧ (0 ≤ ((216 : Nat) : Int) + 16) ∧ mz_t 229 (-20) = 209 ∧ (0 ≤ ((229 : Nat) : Int) + (-20)) := by decide +kernel
theorem j_Model_breaks_22 : mz_t 22 116 = 138 ∧ (0 ≤ ((22 : Nat) : Int) + 116) := by decide +kernel
theorem j_Model_breaks_40 : mz_t 40 26 = 66 ∧ (0 ≤ ((40 : Nat) : Int) + 26) := by decide +kernel
theorem j_Model_breaks_47 : mz_t 47 19 = 66 ∧ (0 ≤ ((47 : Nat) : Int) + 19) := by decide +kernel
theorem j_Model_breaks_59 : mz_t 59 7 = 66 ∧ (0 ≤ ((59 : Nat) : Int) + 7) := by decide +kernel
theorem j_Model_breaks_63 : mz_t 63 4 = 67 ∧ (0 ≤ ((63 : Nat) : Int) + 4) := by decide +kernel
theorem j_Model_breaks_71 : mz_t 71 54 = 125 ∧ (0 ≤ ((71 : Nat) : Int) + 54) := by decide +kernel
theorem j_Model_breaks_76 : mz_t 76 53 = 129 ∧ (0 ≤ ((76 : Nat) : Int) + 53) := by decide +kernel
theorem j_Model_breaks_83 : mz_t 83 13 = 96 ∧ (0 ≤ ((83 : Nat) : Int) + 13) := by decide +kernel
theorem j_Model_breaks_93 : mz_t 93 4 = 97 ∧ (0 ≤ ((93 : Nat) : Int) + 4) := by decide +kernel
theorem j_Model_breaks_105 : mz_t 105 13 = 118 ∧ (0 ≤ ((105 : Nat) : Int) + 13) := by decide +kernel
theorem j_Model_breaks_115 : mz_t 115 4 = 119 ∧ (0 ≤ ((115 : Nat) : Int) + 4) := by decide +kernel
theorem j_Model_breaks_122 : mz_t 122 7 = 129 ∧ (0 ≤ ((122 : Nat) : Int) + 7) := by decide +kernel
theorem j_Model_breaks_126 : mz_t 126 4 = 130 ∧ (0 ≤ ((126 : Nat) : Int) + 4) := by decide +kernel
theorem j_Model_breaks_135 : mz_t 135 (-126) = 9 ∧ (0 ≤ ((135 : Nat) : Int) + (-126)) := by decide +kernel
theorem j_Model_breaks : mz_t 22 116 = 138 ∧ (0 ≤ ((22 : Nat) : Int) + 116) ∧ mz_t 40 26 = 66 ∧ (0 ≤ ((40 : Nat) : Int) + 26) ∧ mz_t 47 19 = 66 ∧ (0 ≤ ((47 : Nat) : Int) + 19) ∧ mz_t 59 7 = 66 ∧ (0 ≤ ((59 : Nat) : Int) + 7) ∧ mz_t 63 4 = 67 ∧ (0 ≤ ((63 : Nat) : Int) + 4) ∧ mz_t 71 54 = 125 ∧ (0 ≤ ((71 : Nat) : Int) + 54) ∧ mz_t 76 53 = 129 ∧ (0 ≤ ((76 : Nat) : Int) + 53) ∧ mz_t 83 13 = 96 ∧ (0 ≤ ((83 : Nat) : Int) + 13) ∧ mz_t 93 4 = 97 ∧ (0 ≤ ((93 : Nat) : Int) + 4) ∧ mz_t 105 13 = 118 ∧ (0 ≤ ((105 : Nat) : Int) + 13) ∧ mz_t 115 4 = 119 ∧ (0 ≤ ((115 : Nat) : Int) + 4) ∧ mz_t 122 7 = 129 ∧ (0 ≤ ((122 : Nat) : Int) + 7) ∧ mz_t 126 4 = 130 ∧ (0 ≤ ((126 : Nat) : Int) + 4) ∧ mz_t 135 (-126) = 9 ∧ (0 ≤ ((135 : Nat) : Int) + (-126)) := by decide +kernel
theorem j_Model_faultOfCard_14 : mz_t 14 7 = 21 ∧ (0 ≤ ((14 : Nat) : Int) + 7) := by decide +kernel
theorem j_Model_faultOfCard_18 : mz_t 18 4 = 22 ∧ (0 ≤ ((18 : Nat) : Int) + 4) := by decide +kernel
theorem j_Model_faultOfCard_26 : mz_t 26 7 = 33 ∧ (0 ≤ ((26 : Nat) : Int) + 7) := by decide +kernel
theorem j_Model_faultOfCard_30 : mz_t 30 4 = 34 ∧ (0 ≤ ((30 : Nat) : Int) + 4) := by decide +kernel
theorem j_Model_faultOfCard_42 : mz_t 42 51 = 93 ∧ (0 ≤ ((42 : Nat) : Int) + 51) := by decide +kernel
theorem j_Model_faultOfCard_47 : mz_t 47 13 = 60 ∧ (0 ≤ ((47 : Nat) : Int) + 13) := by decide +kernel
theorem j_Model_faultOfCard_57 : mz_t 57 7 = 64 ∧ (0 ≤ ((57 : Nat) : Int) + 7) := by decide +kernel
theorem j_Model_faultOfCard_61 : mz_t 61 4 = 65 ∧ (0 ≤ ((61 : Nat) : Int) + 4) := by decide +kernel
theorem j_Model_faultOfCard_76 : mz_t 76 7 = 83 ∧ (0 ≤ ((76 : Nat) : Int) + 7) := by decide +kernel
theorem j_Model_faultOfCard_80 : mz_t 80 4 = 84 ∧ (0 ≤ ((80 : Nat) : Int) + 4) := by decide +kernel
theorem j_Model_faultOfCard_90 : mz_t 90 (-51) = 39 ∧ (0 ≤ ((90 : Nat) : Int) + (-51)) := by decide +kernel
theorem j_Model_faultOfCard_100 : mz_t 100 42 = 142 ∧ (0 ≤ ((100 : Nat) : Int) + 42) := by decide +kernel
theorem j_Model_faultOfCard_105 : mz_t 105 24 = 129 ∧ (0 ≤ ((105 : Nat) : Int) + 24) := by decide +kernel
theorem j_Model_faultOfCard_110 : mz_t 110 23 = 133 ∧ (0 ≤ ((110 : Nat) : Int) + 23) := by decide +kernel
theorem j_Model_faultOfCard_126 : mz_t 126 7 = 133 ∧ (0 ≤ ((126 : Nat) : Int) + 7) := by decide +kernel
theorem j_Model_faultOfCard_130 : mz_t 130 4 = 134 ∧ (0 ≤ ((130 : Nat) : Int) + 4) := by decide +kernel
theorem j_Model_faultOfCard_139 : mz_t 139 (-43) = 96 ∧ (0 ≤ ((139 : Nat) : Int) + (-43)) := by decide +kernel
theorem j_Model_faultOfCard_151 : mz_t 151 33 = 184 ∧ (0 ≤ ((151 : Nat) : Int) + 33) := by decide +kernel
theorem j_Model_faultOfCard_156 : mz_t 156 15 = 171 ∧ (0 ≤ ((156 : Nat) : Int) + 15) := by decide +kernel
theorem j_Model_faultOfCard_168 : mz_t 168 7 = 175 ∧ (0 ≤ ((168 : Nat) : Int) + 7) := by decide +kernel
theorem j_Model_faultOfCard_172 : mz_t 172 4 = 176 ∧ (0 ≤ ((172 : Nat) : Int) + 4) := by decide +kernel
theorem j_Model_faultOfCard_181 : mz_t 181 (-33) = 148 ∧ (0 ≤ ((181 : Nat) : Int) + (-33)) := by decide +kernel
theorem j_Model_faultOfCard_186 : mz_t 186 7 = 193 ∧ (0 ≤ ((186 : Nat) : Int) + 7) := by decide +kernel
theorem j_Model_faultOfCard_190 : mz_t 190 29 = 219 ∧ (0 ≤ ((190 : Nat) : Int) + 29) := by decide +kernel
theorem j_Model_faultOfCard_195 : mz_t 195 7 = 202 ∧ (0 ≤ ((195 : Nat) : Int) + 7) := by decide +kernel
theorem j_Model_faultOfCard_199 : mz_t 199 20 = 219 ∧ (0 ≤ ((199 : Nat) : Int) + 20) := by decide +kernel
theorem j_Model_faultOfCard_211 : mz_t 211 7 = 218 ∧ (0 ≤ ((211 : Nat) : Int) + 7) := by decide +kernel
theorem j_Model_faultOfCard_215 : mz_t 215 4 = 219 ∧ (0 ≤ ((215 : Nat) : Int) + 4) := by decide +kernel
theorem j_Model_faultOfCard : mz_t 14 7 = 21 ∧ (0 ≤ ((14 : Nat) : Int) + 7) ∧ mz_t 18 4 = 22 ∧ (0 ≤ ((18 : Nat) : Int) + 4) ∧ mz_t 26 7 = 33 ∧ (0 ≤ ((26 : Nat) : Int) + 7) ∧ mz_t 30 4 = 34 ∧ (0 ≤ ((30 : Nat) : Int) + 4) ∧ mz_t 42 51 = 93 ∧ (0 ≤ ((42 : Nat) : Int) + 51) ∧ mz_t 47 13 = 60 ∧ (0 ≤ ((47 : Nat) : Int) + 13) ∧ mz_t 57 7 = 64 ∧ (0 ≤ ((57 : Nat) : Int) + 7) ∧ mz_t 61 4 = 65 ∧ (0 ≤ ((61 : Nat) : Int) + 4) ∧ mz_t 76 7 = 83 ∧ (0 ≤ ((76 : Nat) : Int) + 7) ∧ mz_t 80 4 = 84 ∧ (0 ≤ ((80 : Nat) : Int) + 4) ∧ mz_t 90 (-51) = 39 ∧ (0 ≤ ((90 : Nat) : Int) + (-51)) ∧ mz_t 100 42 = 142 ∧ (0 ≤ ((100 : Nat) : Int) + 42) ∧ mz_t 105 24 = 129 ∧ (0 ≤ ((105 : Nat) : Int) + 24) ∧ mz_t 110 23 = 133 ∧ (0 ≤ ((110 : Nat) : Int) + 23) ∧ mz_t 126 7 = 133 ∧ (0 ≤ ((126 : Nat) : Int) + 7) ∧ mz_t 130 4 = 134 ∧ (0 ≤ ((130 : Nat) : Int) + 4) ∧ mz_t 139 (-43) = 96 ∧ (0 ≤ ((139 : Nat) : Int) + (-43)) ∧ mz_t 151 33 = 184 ∧ (0 ≤ ((151 : Nat) : Int) + 33) ∧ mz_t 156 15 = 171 ∧ (0 ≤ ((156 : Nat) : Int) + 15) ∧ mz_t 168 7 = 175 ∧ (0 ≤ ((168 : Nat) : Int) + 7) ∧ mz_t 172 4 = 176 ∧ (0 ≤ ((172 : Nat) : Int) + 4) ∧ mz_t 181 (-33) = 148 ∧ (0 ≤ ((181 : Nat) : Int) + (-33)) ∧ mz_t 186 7 = 193 ∧ (0 ≤ ((186 : Nat) : Int) + 7) ∧ mz_t 190 29 = 219 ∧ (0 ≤ ((190 : Nat) : Int) + 29) ∧ mz_t 195 7 = 202 ∧ (0 ≤ ((195 : Nat) : Int) + 7) ∧ mz_t 199 20 = 219 ∧ (0 ≤ ((199 : Nat) : Int) + 20) ∧ mz_t 211 7 = 218 ∧ (0 ≤ ((211 : Nat) : Int) + 7) ∧ mz_t 215 4 = 219 ∧ (0 ≤ ((215 : Nat) : Int) + 4) := by decide +kernel
theorem j_Model_isListed_19 : mz_t 19 30 = 49 ∧ (0 ≤ ((19 : Nat) : Int) + 30) := by decide +kernel
theorem j_Model_isListed_23 : mz_t 23 14 = 37 ∧ (0 ≤ ((23 : Nat) : Int) + 14) := by decide +kernel
theorem j_Model_isListed_34 : mz_t 34 7 = 41 ∧ (0 ≤ ((34 : Nat) : Int) + 7) := by decide +kernel
theorem j_Model_isListed_38 : mz_t 38 4 = 42 ∧ (0 ≤ ((38 : Nat) : Int) + 4) := by decide +kernel
theorem j_Model_isListed_46 : mz_t 46 (-39) = 7 ∧ (0 ≤ ((46 : Nat) : Int) + (-39)) := by decide +kernel
theorem j_Model_isListed : mz_t 19 30 = 49 ∧ (0 ≤ ((19 : Nat) : Int) + 30) ∧ mz_t 23 14 = 37 ∧ (0 ≤ ((23 : Nat) : Int) + 14) ∧ mz_t 34 7 = 41 ∧ (0 ≤ ((34 : Nat) : Int) + 7) ∧ mz_t 38 4 = 42 ∧ (0 ≤ ((38 : Nat) : Int) + 4) ∧ mz_t 46 (-39) = 7 ∧ (0 ≤ ((46 : Nat) : Int) + (-39)) := by decide +kernel
theorem j_Model_counts_9 : mz_t 9 146 = 155 ∧ (0 ≤ ((9 : Nat) : Int) + 146) := by decide +kernel
theorem j_Model_counts_30 : mz_t 30 7 = 37 ∧ (0 ≤ ((30 : Nat) : Int) + 7) := by decide +kernel
theorem j_Model_counts_34 : mz_t 34 10 = 44 ∧ (0 ≤ ((34 : Nat) : Int) + 10) := by decide +kernel
theorem j_Model_counts_55 : mz_t 55 94 = 149 ∧ (0 ≤ ((55 : Nat) : Int) + 94) := by decide +kernel
theorem j_Model_counts_79 : mz_t 79 14 = 93 ∧ (0 ≤ ((79 : Nat) : Int) + 14) := by decide +kernel
theorem j_Model_counts_86 : mz_t 86 7 = 93 ∧ (0 ≤ ((86 : Nat) : Int) + 7) := by decide +kernel
theorem j_Model_counts_90 : mz_t 90 4 = 94 ∧ (0 ≤ ((90 : Nat) : Int) + 4) := by decide +kernel
theorem j_Model_counts_98 : mz_t 98 7 = 105 ∧ (0 ≤ ((98 : Nat) : Int) + 7) := by decide +kernel
theorem j_Model_counts_102 : mz_t 102 8 = 110 ∧ (0 ≤ ((102 : Nat) : Int) + 8) := by decide +kernel
theorem j_Model_counts_122 : mz_t 122 11 = 133 ∧ (0 ≤ ((122 : Nat) : Int) + 11) := by decide +kernel
theorem j_Model_counts_130 : mz_t 130 4 = 134 ∧ (0 ≤ ((130 : Nat) : Int) + 4) := by decide +kernel
theorem j_Model_counts_146 : mz_t 146 (-95) = 51 ∧ (0 ≤ ((146 : Nat) : Int) + (-95)) := by decide +kernel
theorem j_Model_counts_152 : mz_t 152 (-146) = 6 ∧ (0 ≤ ((152 : Nat) : Int) + (-146)) := by decide +kernel
theorem j_Model_counts : mz_t 9 146 = 155 ∧ (0 ≤ ((9 : Nat) : Int) + 146) ∧ mz_t 30 7 = 37 ∧ (0 ≤ ((30 : Nat) : Int) + 7) ∧ mz_t 34 10 = 44 ∧ (0 ≤ ((34 : Nat) : Int) + 10) ∧ mz_t 55 94 = 149 ∧ (0 ≤ ((55 : Nat) : Int) + 94) ∧ mz_t 79 14 = 93 ∧ (0 ≤ ((79 : Nat) : Int) + 14) ∧ mz_t 86 7 = 93 ∧ (0 ≤ ((86 : Nat) : Int) + 7) ∧ mz_t 90 4 = 94 ∧ (0 ≤ ((90 : Nat) : Int) + 4) ∧ mz_t 98 7 = 105 ∧ (0 ≤ ((98 : Nat) : Int) + 7) ∧ mz_t 102 8 = 110 ∧ (0 ≤ ((102 : Nat) : Int) + 8) ∧ mz_t 122 11 = 133 ∧ (0 ≤ ((122 : Nat) : Int) + 11) ∧ mz_t 130 4 = 134 ∧ (0 ≤ ((130 : Nat) : Int) + 4) ∧ mz_t 146 (-95) = 51 ∧ (0 ≤ ((146 : Nat) : Int) + (-95)) ∧ mz_t 152 (-146) = 6 ∧ (0 ≤ ((152 : Nat) : Int) + (-146)) := by decide +kernel
theorem j_Model_clashes_9 : mz_t 9 32 = 41 ∧ (0 ≤ ((9 : Nat) : Int) + 32) := by decide +kernel
theorem j_Model_clashes_13 : mz_t 13 16 = 29 ∧ (0 ≤ ((13 : Nat) : Int) + 16) := by decide +kernel
theorem j_Model_clashes_26 : mz_t 26 7 = 33 ∧ (0 ≤ ((26 : Nat) : Int) + 7) := by decide +kernel
theorem j_Model_clashes_30 : mz_t 30 4 = 34 ∧ (0 ≤ ((30 : Nat) : Int) + 4) := by decide +kernel
theorem j_Model_clashes_38 : mz_t 38 (-33) = 5 ∧ (0 ≤ ((38 : Nat) : Int) + (-33)) := by decide +kernel
theorem j_Model_clashes : mz_t 9 32 = 41 ∧ (0 ≤ ((9 : Nat) : Int) + 32) ∧ mz_t 13 16 = 29 ∧ (0 ≤ ((13 : Nat) : Int) + 16) ∧ mz_t 26 7 = 33 ∧ (0 ≤ ((26 : Nat) : Int) + 7) ∧ mz_t 30 4 = 34 ∧ (0 ≤ ((30 : Nat) : Int) + 4) ∧ mz_t 38 (-33) = 5 ∧ (0 ≤ ((38 : Nat) : Int) + (-33)) := by decide +kernel
theorem j_Model_totals_22 : mz_t 22 145 = 167 ∧ (0 ≤ ((22 : Nat) : Int) + 145) := by decide +kernel
theorem j_Model_totals_48 : mz_t 48 39 = 87 ∧ (0 ≤ ((48 : Nat) : Int) + 39) := by decide +kernel
theorem j_Model_totals_53 : mz_t 53 34 = 87 ∧ (0 ≤ ((53 : Nat) : Int) + 34) := by decide +kernel
theorem j_Model_totals_65 : mz_t 65 7 = 72 ∧ (0 ≤ ((65 : Nat) : Int) + 7) := by decide +kernel
theorem j_Model_totals_69 : mz_t 69 8 = 77 ∧ (0 ≤ ((69 : Nat) : Int) + 8) := by decide +kernel
theorem j_Model_totals_80 : mz_t 80 7 = 87 ∧ (0 ≤ ((80 : Nat) : Int) + 7) := by decide +kernel
theorem j_Model_totals_84 : mz_t 84 4 = 88 ∧ (0 ≤ ((84 : Nat) : Int) + 4) := by decide +kernel
theorem j_Model_totals_92 : mz_t 92 34 = 126 ∧ (0 ≤ ((92 : Nat) : Int) + 34) := by decide +kernel
theorem j_Model_totals_102 : mz_t 102 7 = 109 ∧ (0 ≤ ((102 : Nat) : Int) + 7) := by decide +kernel
theorem j_Model_totals_106 : mz_t 106 8 = 114 ∧ (0 ≤ ((106 : Nat) : Int) + 8) := by decide +kernel
theorem j_Model_totals_123 : mz_t 123 4 = 127 ∧ (0 ≤ ((123 : Nat) : Int) + 4) := by decide +kernel
theorem j_Model_totals_131 : mz_t 131 10 = 141 ∧ (0 ≤ ((131 : Nat) : Int) + 10) := by decide +kernel
theorem j_Model_totals_138 : mz_t 138 8 = 146 ∧ (0 ≤ ((138 : Nat) : Int) + 8) := by decide +kernel
theorem j_Model_totals_143 : mz_t 143 16 = 159 ∧ (0 ≤ ((143 : Nat) : Int) + 16) := by decide +kernel
theorem j_Model_totals_149 : mz_t 149 8 = 157 ∧ (0 ≤ ((149 : Nat) : Int) + 8) := by decide +kernel
theorem j_Model_totals_154 : mz_t 154 5 = 159 ∧ (0 ≤ ((154 : Nat) : Int) + 5) := by decide +kernel
theorem j_Model_totals_164 : mz_t 164 (-155) = 9 ∧ (0 ≤ ((164 : Nat) : Int) + (-155)) := by decide +kernel
theorem j_Model_totals : mz_t 22 145 = 167 ∧ (0 ≤ ((22 : Nat) : Int) + 145) ∧ mz_t 48 39 = 87 ∧ (0 ≤ ((48 : Nat) : Int) + 39) ∧ mz_t 53 34 = 87 ∧ (0 ≤ ((53 : Nat) : Int) + 34) ∧ mz_t 65 7 = 72 ∧ (0 ≤ ((65 : Nat) : Int) + 7) ∧ mz_t 69 8 = 77 ∧ (0 ≤ ((69 : Nat) : Int) + 8) ∧ mz_t 80 7 = 87 ∧ (0 ≤ ((80 : Nat) : Int) + 7) ∧ mz_t 84 4 = 88 ∧ (0 ≤ ((84 : Nat) : Int) + 4) ∧ mz_t 92 34 = 126 ∧ (0 ≤ ((92 : Nat) : Int) + 34) ∧ mz_t 102 7 = 109 ∧ (0 ≤ ((102 : Nat) : Int) + 7) ∧ mz_t 106 8 = 114 ∧ (0 ≤ ((106 : Nat) : Int) + 8) ∧ mz_t 123 4 = 127 ∧ (0 ≤ ((123 : Nat) : Int) + 4) ∧ mz_t 131 10 = 141 ∧ (0 ≤ ((131 : Nat) : Int) + 10) ∧ mz_t 138 8 = 146 ∧ (0 ≤ ((138 : Nat) : Int) + 8) ∧ mz_t 143 16 = 159 ∧ (0 ≤ ((143 : Nat) : Int) + 16) ∧ mz_t 149 8 = 157 ∧ (0 ≤ ((149 : Nat) : Int) + 8) ∧ mz_t 154 5 = 159 ∧ (0 ≤ ((154 : Nat) : Int) + 5) ∧ mz_t 164 (-155) = 9 ∧ (0 ≤ ((164 : Nat) : Int) + (-155)) := by decide +kernel
theorem j_Model_wheel_8 : mz_t 8 14 = 22 ∧ (0 ≤ ((8 : Nat) : Int) + 14) := by decide +kernel
theorem j_Model_wheel_19 : mz_t 19 (-14) = 5 ∧ (0 ≤ ((19 : Nat) : Int) + (-14)) := by decide +kernel
theorem j_Model_wheel_23 : mz_t 23 12 = 35 ∧ (0 ≤ ((23 : Nat) : Int) + 12) := by decide +kernel
theorem j_Model_wheel_27 : mz_t 27 8 = 35 ∧ (0 ≤ ((27 : Nat) : Int) + 8) := by decide +kernel
theorem j_Model_wheel_32 : mz_t 32 10 = 42 ∧ (0 ≤ ((32 : Nat) : Int) + 10) := by decide +kernel
theorem j_Model_wheel : mz_t 8 14 = 22 ∧ (0 ≤ ((8 : Nat) : Int) + 14) ∧ mz_t 19 (-14) = 5 ∧ (0 ≤ ((19 : Nat) : Int) + (-14)) ∧ mz_t 23 12 = 35 ∧ (0 ≤ ((23 : Nat) : Int) + 12) ∧ mz_t 27 8 = 35 ∧ (0 ≤ ((27 : Nat) : Int) + 8) ∧ mz_t 32 10 = 42 ∧ (0 ≤ ((32 : Nat) : Int) + 10) := by decide +kernel
theorem j_Model_hasLevel_8 : mz_t 8 34 = 42 ∧ (0 ≤ ((8 : Nat) : Int) + 34) := by decide +kernel
theorem j_Model_hasLevel_12 : mz_t 12 18 = 30 ∧ (0 ≤ ((12 : Nat) : Int) + 18) := by decide +kernel
theorem j_Model_hasLevel_27 : mz_t 27 7 = 34 ∧ (0 ≤ ((27 : Nat) : Int) + 7) := by decide +kernel
theorem j_Model_hasLevel_31 : mz_t 31 4 = 35 ∧ (0 ≤ ((31 : Nat) : Int) + 4) := by decide +kernel
theorem j_Model_hasLevel_39 : mz_t 39 (-34) = 5 ∧ (0 ≤ ((39 : Nat) : Int) + (-34)) := by decide +kernel
theorem j_Model_hasLevel : mz_t 8 34 = 42 ∧ (0 ≤ ((8 : Nat) : Int) + 34) ∧ mz_t 12 18 = 30 ∧ (0 ≤ ((12 : Nat) : Int) + 18) ∧ mz_t 27 7 = 34 ∧ (0 ≤ ((27 : Nat) : Int) + 7) ∧ mz_t 31 4 = 35 ∧ (0 ≤ ((31 : Nat) : Int) + 4) ∧ mz_t 39 (-34) = 5 ∧ (0 ≤ ((39 : Nat) : Int) + (-34)) := by decide +kernel
theorem j_Model_tabulateCard_6 : mz_t 6 16 = 22 ∧ (0 ≤ ((6 : Nat) : Int) + 16) := by decide +kernel
theorem j_Model_tabulateCard_19 : mz_t 19 (-16) = 3 ∧ (0 ≤ ((19 : Nat) : Int) + (-16)) := by decide +kernel
theorem j_Model_tabulateCard_27 : mz_t 27 46 = 73 ∧ (0 ≤ ((27 : Nat) : Int) + 46) := by decide +kernel
theorem j_Model_tabulateCard_37 : mz_t 37 26 = 63 ∧ (0 ≤ ((37 : Nat) : Int) + 26) := by decide +kernel
theorem j_Model_tabulateCard_60 : mz_t 60 (-27) = 33 ∧ (0 ≤ ((60 : Nat) : Int) + (-27)) := by decide +kernel
theorem j_Model_tabulateCard_79 : mz_t 79 23 = 102 ∧ (0 ≤ ((79 : Nat) : Int) + 23) := by decide +kernel
theorem j_Model_tabulateCard_99 : mz_t 99 (-23) = 76 ∧ (0 ≤ ((99 : Nat) : Int) + (-23)) := by decide +kernel
theorem j_Model_tabulateCard : mz_t 6 16 = 22 ∧ (0 ≤ ((6 : Nat) : Int) + 16) ∧ mz_t 19 (-16) = 3 ∧ (0 ≤ ((19 : Nat) : Int) + (-16)) ∧ mz_t 27 46 = 73 ∧ (0 ≤ ((27 : Nat) : Int) + 46) ∧ mz_t 37 26 = 63 ∧ (0 ≤ ((37 : Nat) : Int) + 26) ∧ mz_t 60 (-27) = 33 ∧ (0 ≤ ((60 : Nat) : Int) + (-27)) ∧ mz_t 79 23 = 102 ∧ (0 ≤ ((79 : Nat) : Int) + 23) ∧ mz_t 99 (-23) = 76 ∧ (0 ≤ ((99 : Nat) : Int) + (-23)) := by decide +kernel
theorem j_Model_total_6 : mz_t 6 4 = 10 ∧ (0 ≤ ((6 : Nat) : Int) + 4) := by decide +kernel
theorem j_Model_total_15 : mz_t 15 21 = 36 ∧ (0 ≤ ((15 : Nat) : Int) + 21) := by decide +kernel
theorem j_Model_total_33 : mz_t 33 (-21) = 12 ∧ (0 ≤ ((33 : Nat) : Int) + (-21)) := by decide +kernel
theorem j_Model_total_50 : mz_t 50 39 = 89 ∧ (0 ≤ ((50 : Nat) : Int) + 39) := by decide +kernel
theorem j_Model_total_69 : mz_t 69 7 = 76 ∧ (0 ≤ ((69 : Nat) : Int) + 7) := by decide +kernel
theorem j_Model_total_73 : mz_t 73 9 = 82 ∧ (0 ≤ ((73 : Nat) : Int) + 9) := by decide +kernel
theorem j_Model_total_86 : mz_t 86 (-38) = 48 ∧ (0 ≤ ((86 : Nat) : Int) + (-38)) := by decide +kernel
theorem j_Model_total : mz_t 6 4 = 10 ∧ (0 ≤ ((6 : Nat) : Int) + 4) ∧ mz_t 15 21 = 36 ∧ (0 ≤ ((15 : Nat) : Int) + 21) ∧ mz_t 33 (-21) = 12 ∧ (0 ≤ ((33 : Nat) : Int) + (-21)) ∧ mz_t 50 39 = 89 ∧ (0 ≤ ((50 : Nat) : Int) + 39) ∧ mz_t 69 7 = 76 ∧ (0 ≤ ((69 : Nat) : Int) + 7) ∧ mz_t 73 9 = 82 ∧ (0 ≤ ((73 : Nat) : Int) + 9) ∧ mz_t 86 (-38) = 48 ∧ (0 ≤ ((86 : Nat) : Int) + (-38)) := by decide +kernel
theorem j_Model_print_14 : mz_t 14 8 = 22 ∧ (0 ≤ ((14 : Nat) : Int) + 8) := by decide +kernel
theorem j_Model_print_19 : mz_t 19 4 = 23 ∧ (0 ≤ ((19 : Nat) : Int) + 4) := by decide +kernel
theorem j_Model_print : mz_t 14 8 = 22 ∧ (0 ≤ ((14 : Nat) : Int) + 8) ∧ mz_t 19 4 = 23 ∧ (0 ≤ ((19 : Nat) : Int) + 4) := by decide +kernel
theorem j_Model_faultOfEnd_10 : mz_t 10 47 = 57 ∧ (0 ≤ ((10 : Nat) : Int) + 47) := by decide +kernel
theorem j_Model_faultOfEnd_14 : mz_t 14 13 = 27 ∧ (0 ≤ ((14 : Nat) : Int) + 13) := by decide +kernel
theorem j_Model_faultOfEnd_24 : mz_t 24 7 = 31 ∧ (0 ≤ ((24 : Nat) : Int) + 7) := by decide +kernel
theorem j_Model_faultOfEnd_28 : mz_t 28 4 = 32 ∧ (0 ≤ ((28 : Nat) : Int) + 4) := by decide +kernel
theorem j_Model_faultOfEnd_41 : mz_t 41 7 = 48 ∧ (0 ≤ ((41 : Nat) : Int) + 7) := by decide +kernel
theorem j_Model_faultOfEnd_45 : mz_t 45 4 = 49 ∧ (0 ≤ ((45 : Nat) : Int) + 4) := by decide +kernel
theorem j_Model_faultOfEnd_54 : mz_t 54 (-47) = 7 ∧ (0 ≤ ((54 : Nat) : Int) + (-47)) := by decide +kernel
theorem j_Model_faultOfEnd_58 : mz_t 58 7 = 65 ∧ (0 ≤ ((58 : Nat) : Int) + 7) := by decide +kernel
theorem j_Model_faultOfEnd_62 : mz_t 62 19 = 81 ∧ (0 ≤ ((62 : Nat) : Int) + 19) := by decide +kernel
theorem j_Model_faultOfEnd_73 : mz_t 73 7 = 80 ∧ (0 ≤ ((73 : Nat) : Int) + 7) := by decide +kernel
theorem j_Model_faultOfEnd_77 : mz_t 77 4 = 81 ∧ (0 ≤ ((77 : Nat) : Int) + 4) := by decide +kernel
theorem j_Model_faultOfEnd : mz_t 10 47 = 57 ∧ (0 ≤ ((10 : Nat) : Int) + 47) ∧ mz_t 14 13 = 27 ∧ (0 ≤ ((14 : Nat) : Int) + 13) ∧ mz_t 24 7 = 31 ∧ (0 ≤ ((24 : Nat) : Int) + 7) ∧ mz_t 28 4 = 32 ∧ (0 ≤ ((28 : Nat) : Int) + 4) ∧ mz_t 41 7 = 48 ∧ (0 ≤ ((41 : Nat) : Int) + 7) ∧ mz_t 45 4 = 49 ∧ (0 ≤ ((45 : Nat) : Int) + 4) ∧ mz_t 54 (-47) = 7 ∧ (0 ≤ ((54 : Nat) : Int) + (-47)) ∧ mz_t 58 7 = 65 ∧ (0 ≤ ((58 : Nat) : Int) + 7) ∧ mz_t 62 19 = 81 ∧ (0 ≤ ((62 : Nat) : Int) + 19) ∧ mz_t 73 7 = 80 ∧ (0 ≤ ((73 : Nat) : Int) + 7) ∧ mz_t 77 4 = 81 ∧ (0 ≤ ((77 : Nat) : Int) + 4) := by decide +kernel
theorem j_Model_cut_9 : mz_t 9 29 = 38 ∧ (0 ≤ ((9 : Nat) : Int) + 29) := by decide +kernel
theorem j_Model_cut_16 : mz_t 16 22 = 38 ∧ (0 ≤ ((16 : Nat) : Int) + 22) := by decide +kernel
theorem j_Model_cut_21 : mz_t 21 17 = 38 ∧ (0 ≤ ((21 : Nat) : Int) + 17) := by decide +kernel
theorem j_Model_cut_25 : mz_t 25 13 = 38 ∧ (0 ≤ ((25 : Nat) : Int) + 13) := by decide +kernel
theorem j_Model_cut_35 : mz_t 35 5 = 40 ∧ (0 ≤ ((35 : Nat) : Int) + 5) := by decide +kernel
theorem j_Model_cut_46 : mz_t 46 21 = 67 ∧ (0 ≤ ((46 : Nat) : Int) + 21) := by decide +kernel
theorem j_Model_cut_64 : mz_t 64 (-21) = 43 ∧ (0 ≤ ((64 : Nat) : Int) + (-21)) := by decide +kernel
theorem j_Model_cut_88 : mz_t 88 37 = 125 ∧ (0 ≤ ((88 : Nat) : Int) + 37) := by decide +kernel
theorem j_Model_cut_122 : mz_t 122 (-42) = 80 ∧ (0 ≤ ((122 : Nat) : Int) + (-42)) := by decide +kernel
theorem j_Model_cut : mz_t 9 29 = 38 ∧ (0 ≤ ((9 : Nat) : Int) + 29) ∧ mz_t 16 22 = 38 ∧ (0 ≤ ((16 : Nat) : Int) + 22) ∧ mz_t 21 17 = 38 ∧ (0 ≤ ((21 : Nat) : Int) + 17) ∧ mz_t 25 13 = 38 ∧ (0 ≤ ((25 : Nat) : Int) + 13) ∧ mz_t 35 5 = 40 ∧ (0 ≤ ((35 : Nat) : Int) + 5) ∧ mz_t 46 21 = 67 ∧ (0 ≤ ((46 : Nat) : Int) + 21) ∧ mz_t 64 (-21) = 43 ∧ (0 ≤ ((64 : Nat) : Int) + (-21)) ∧ mz_t 88 37 = 125 ∧ (0 ≤ ((88 : Nat) : Int) + 37) ∧ mz_t 122 (-42) = 80 ∧ (0 ≤ ((122 : Nat) : Int) + (-42)) := by decide +kernel
theorem j_Model_sign_4 : mz_t 4 18 = 22 ∧ (0 ≤ ((4 : Nat) : Int) + 18) := by decide +kernel
theorem j_Model_sign_8 : mz_t 8 14 = 22 ∧ (0 ≤ ((8 : Nat) : Int) + 14) := by decide +kernel
theorem j_Model_sign_15 : mz_t 15 7 = 22 ∧ (0 ≤ ((15 : Nat) : Int) + 7) := by decide +kernel
theorem j_Model_sign_19 : mz_t 19 4 = 23 ∧ (0 ≤ ((19 : Nat) : Int) + 4) := by decide +kernel
theorem j_Model_sign_28 : mz_t 28 26 = 54 ∧ (0 ≤ ((28 : Nat) : Int) + 26) := by decide +kernel
theorem j_Model_sign_38 : mz_t 38 7 = 45 ∧ (0 ≤ ((38 : Nat) : Int) + 7) := by decide +kernel
theorem j_Model_sign_42 : mz_t 42 4 = 46 ∧ (0 ≤ ((42 : Nat) : Int) + 4) := by decide +kernel
theorem j_Model_sign_47 : mz_t 47 7 = 54 ∧ (0 ≤ ((47 : Nat) : Int) + 7) := by decide +kernel
theorem j_Model_sign_51 : mz_t 51 4 = 55 ∧ (0 ≤ ((51 : Nat) : Int) + 4) := by decide +kernel
theorem j_Model_sign_62 : mz_t 62 7 = 69 ∧ (0 ≤ ((62 : Nat) : Int) + 7) := by decide +kernel
theorem j_Model_sign_66 : mz_t 66 14 = 80 ∧ (0 ≤ ((66 : Nat) : Int) + 14) := by decide +kernel
theorem j_Model_sign : mz_t 4 18 = 22 ∧ (0 ≤ ((4 : Nat) : Int) + 18) ∧ mz_t 8 14 = 22 ∧ (0 ≤ ((8 : Nat) : Int) + 14) ∧ mz_t 15 7 = 22 ∧ (0 ≤ ((15 : Nat) : Int) + 7) ∧ mz_t 19 4 = 23 ∧ (0 ≤ ((19 : Nat) : Int) + 4) ∧ mz_t 28 26 = 54 ∧ (0 ≤ ((28 : Nat) : Int) + 26) ∧ mz_t 38 7 = 45 ∧ (0 ≤ ((38 : Nat) : Int) + 7) ∧ mz_t 42 4 = 46 ∧ (0 ≤ ((42 : Nat) : Int) + 4) ∧ mz_t 47 7 = 54 ∧ (0 ≤ ((47 : Nat) : Int) + 7) ∧ mz_t 51 4 = 55 ∧ (0 ≤ ((51 : Nat) : Int) + 4) ∧ mz_t 62 7 = 69 ∧ (0 ≤ ((62 : Nat) : Int) + 7) ∧ mz_t 66 14 = 80 ∧ (0 ≤ ((66 : Nat) : Int) + 14) := by decide +kernel
theorem j_Model_printed_2 : mz_t 2 25 = 27 ∧ (0 ≤ ((2 : Nat) : Int) + 25) := by decide +kernel
theorem j_Model_printed_10 : mz_t 10 17 = 27 ∧ (0 ≤ ((10 : Nat) : Int) + 17) := by decide +kernel
theorem j_Model_printed_14 : mz_t 14 13 = 27 ∧ (0 ≤ ((14 : Nat) : Int) + 13) := by decide +kernel
theorem j_Model_printed_20 : mz_t 20 7 = 27 ∧ (0 ≤ ((20 : Nat) : Int) + 7) := by decide +kernel
theorem j_Model_printed_24 : mz_t 24 4 = 28 ∧ (0 ≤ ((24 : Nat) : Int) + 4) := by decide +kernel
theorem j_Model_printed_35 : mz_t 35 7 = 42 ∧ (0 ≤ ((35 : Nat) : Int) + 7) := by decide +kernel
theorem j_Model_printed_39 : mz_t 39 14 = 53 ∧ (0 ≤ ((39 : Nat) : Int) + 14) := by decide +kernel
theorem j_Model_printed : mz_t 2 25 = 27 ∧ (0 ≤ ((2 : Nat) : Int) + 25) ∧ mz_t 10 17 = 27 ∧ (0 ≤ ((10 : Nat) : Int) + 17) ∧ mz_t 14 13 = 27 ∧ (0 ≤ ((14 : Nat) : Int) + 13) ∧ mz_t 20 7 = 27 ∧ (0 ≤ ((20 : Nat) : Int) + 7) ∧ mz_t 24 4 = 28 ∧ (0 ≤ ((24 : Nat) : Int) + 4) ∧ mz_t 35 7 = 42 ∧ (0 ≤ ((35 : Nat) : Int) + 7) ∧ mz_t 39 14 = 53 ∧ (0 ≤ ((39 : Nat) : Int) + 14) := by decide +kernel
theorem j_Model_counter_2 : mz_t 2 12 = 14 ∧ (0 ≤ ((2 : Nat) : Int) + 12) := by decide +kernel
theorem j_Model_counter_7 : mz_t 7 7 = 14 ∧ (0 ≤ ((7 : Nat) : Int) + 7) := by decide +kernel
theorem j_Model_counter_11 : mz_t 11 4 = 15 ∧ (0 ≤ ((11 : Nat) : Int) + 4) := by decide +kernel
theorem j_Model_counter_22 : mz_t 22 7 = 29 ∧ (0 ≤ ((22 : Nat) : Int) + 7) := by decide +kernel
theorem j_Model_counter_26 : mz_t 26 9 = 35 ∧ (0 ≤ ((26 : Nat) : Int) + 9) := by decide +kernel
theorem j_Model_counter : mz_t 2 12 = 14 ∧ (0 ≤ ((2 : Nat) : Int) + 12) ∧ mz_t 7 7 = 14 ∧ (0 ≤ ((7 : Nat) : Int) + 7) ∧ mz_t 11 4 = 15 ∧ (0 ≤ ((11 : Nat) : Int) + 4) ∧ mz_t 22 7 = 29 ∧ (0 ≤ ((22 : Nat) : Int) + 7) ∧ mz_t 26 9 = 35 ∧ (0 ≤ ((26 : Nat) : Int) + 9) := by decide +kernel
theorem j_Model_fault_6 : mz_t 6 10 = 16 ∧ (0 ≤ ((6 : Nat) : Int) + 10) := by decide +kernel
theorem j_Model_fault_13 : mz_t 13 16 = 29 ∧ (0 ≤ ((13 : Nat) : Int) + 16) := by decide +kernel
theorem j_Model_fault_18 : mz_t 18 10 = 28 ∧ (0 ≤ ((18 : Nat) : Int) + 10) := by decide +kernel
theorem j_Model_fault_25 : mz_t 25 4 = 29 ∧ (0 ≤ ((25 : Nat) : Int) + 4) := by decide +kernel
theorem j_Model_fault : mz_t 6 10 = 16 ∧ (0 ≤ ((6 : Nat) : Int) + 10) ∧ mz_t 13 16 = 29 ∧ (0 ≤ ((13 : Nat) : Int) + 16) ∧ mz_t 18 10 = 28 ∧ (0 ≤ ((18 : Nat) : Int) + 10) ∧ mz_t 25 4 = 29 ∧ (0 ≤ ((25 : Nat) : Int) + 4) := by decide +kernel
theorem j_Model_count_6 : mz_t 6 16 = 22 ∧ (0 ≤ ((6 : Nat) : Int) + 16) := by decide +kernel
theorem j_Model_count_12 : mz_t 12 10 = 22 ∧ (0 ≤ ((12 : Nat) : Int) + 10) := by decide +kernel
theorem j_Model_count_25 : mz_t 25 19 = 44 ∧ (0 ≤ ((25 : Nat) : Int) + 19) := by decide +kernel
theorem j_Model_count_31 : mz_t 31 13 = 44 ∧ (0 ≤ ((31 : Nat) : Int) + 13) := by decide +kernel
theorem j_Model_count_47 : mz_t 47 10 = 57 ∧ (0 ≤ ((47 : Nat) : Int) + 10) := by decide +kernel
theorem j_Model_count_54 : mz_t 54 43 = 97 ∧ (0 ≤ ((54 : Nat) : Int) + 43) := by decide +kernel
theorem j_Model_count_60 : mz_t 60 10 = 70 ∧ (0 ≤ ((60 : Nat) : Int) + 10) := by decide +kernel
theorem j_Model_count_67 : mz_t 67 30 = 97 ∧ (0 ≤ ((67 : Nat) : Int) + 30) := by decide +kernel
theorem j_Model_count_73 : mz_t 73 10 = 83 ∧ (0 ≤ ((73 : Nat) : Int) + 10) := by decide +kernel
theorem j_Model_count_80 : mz_t 80 17 = 97 ∧ (0 ≤ ((80 : Nat) : Int) + 17) := by decide +kernel
theorem j_Model_count_86 : mz_t 86 10 = 96 ∧ (0 ≤ ((86 : Nat) : Int) + 10) := by decide +kernel
theorem j_Model_count_93 : mz_t 93 4 = 97 ∧ (0 ≤ ((93 : Nat) : Int) + 4) := by decide +kernel
theorem j_Model_count : mz_t 6 16 = 22 ∧ (0 ≤ ((6 : Nat) : Int) + 16) ∧ mz_t 12 10 = 22 ∧ (0 ≤ ((12 : Nat) : Int) + 10) ∧ mz_t 25 19 = 44 ∧ (0 ≤ ((25 : Nat) : Int) + 19) ∧ mz_t 31 13 = 44 ∧ (0 ≤ ((31 : Nat) : Int) + 13) ∧ mz_t 47 10 = 57 ∧ (0 ≤ ((47 : Nat) : Int) + 10) ∧ mz_t 54 43 = 97 ∧ (0 ≤ ((54 : Nat) : Int) + 43) ∧ mz_t 60 10 = 70 ∧ (0 ≤ ((60 : Nat) : Int) + 10) ∧ mz_t 67 30 = 97 ∧ (0 ≤ ((67 : Nat) : Int) + 30) ∧ mz_t 73 10 = 83 ∧ (0 ≤ ((73 : Nat) : Int) + 10) ∧ mz_t 80 17 = 97 ∧ (0 ≤ ((80 : Nat) : Int) + 17) ∧ mz_t 86 10 = 96 ∧ (0 ≤ ((86 : Nat) : Int) + 10) ∧ mz_t 93 4 = 97 ∧ (0 ≤ ((93 : Nat) : Int) + 4) := by decide +kernel
