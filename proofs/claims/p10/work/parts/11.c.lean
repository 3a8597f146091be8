/-! the words of each place that throws -/
def th_ok (w : Cond) : Bool := (((decide (w ∈ lw_tbl) && goodWord w) || (decide (w ∈ tables_1) && nm_isNest w)) && Jvm.Free.Str.ridesW w) || decide (w = .laysStatic Bundle.tN "UNASSIGNED_STACK" Bundle.steD) || decide (w = .laysStatic Bundle.tN "SUPPRESSED_SENTINEL" Bundle.listD) || decide (w = .isRef (.static Bundle.tN "UNASSIGNED_STACK" Bundle.steD)) || decide (w = .isRef (.static Bundle.tN "SUPPRESSED_SENTINEL" Bundle.listD))
theorem th_ok_of {L : List Cond} (h : L.all th_ok = true) : ∀ w ∈ L, ((w ∈ nm_Ts ∨ w ∈ nm_Ns) ∧ Jvm.Free.Str.ridesW w = true) ∨ w = .laysStatic Bundle.tN "UNASSIGNED_STACK" Bundle.steD ∨ w = .laysStatic Bundle.tN "SUPPRESSED_SENTINEL" Bundle.listD ∨ w = .isRef (.static Bundle.tN "UNASSIGNED_STACK" Bundle.steD) ∨ w = .isRef (.static Bundle.tN "SUPPRESSED_SENTINEL" Bundle.listD) := by
  intro w hw
  have h1 := List.all_eq_true.mp h w hw
  simp only [th_ok, Bool.or_eq_true, Bool.and_eq_true, decide_eq_true_eq] at h1
  rcases h1 with (((⟨h1 | h1, h2⟩ | h1) | h1) | h1) | h1
  · exact Or.inl ⟨Or.inl (List.mem_filter.mpr h1), h2⟩
  · exact Or.inl ⟨Or.inr (List.mem_filter.mpr ⟨List.mem_cons_of_mem _ h1.1, h1.2⟩), h2⟩
  · exact Or.inr (Or.inl h1)
  · exact Or.inr (Or.inr (Or.inl h1))
  · exact Or.inr (Or.inr (Or.inr (Or.inl h1)))
  · exact Or.inr (Or.inr (Or.inr (Or.inr h1)))
def th_up : List String := ["java/lang/RuntimeException", "java/lang/Exception"]
theorem th_w_113 : ∀ w ∈ Cond.classLink (nm_Own 0) 109 "java/lang/IllegalArgumentException" :: Cond.initialized "java/lang/IllegalArgumentException" :: Bundle.ownAtoms (nm_Own 0) 113 "java/lang/IllegalArgumentException" th_up, ((w ∈ nm_Ts ∨ w ∈ nm_Ns) ∧ Jvm.Free.Str.ridesW w = true) ∨ w = .laysStatic Bundle.tN "UNASSIGNED_STACK" Bundle.steD ∨ w = .laysStatic Bundle.tN "SUPPRESSED_SENTINEL" Bundle.listD ∨ w = .isRef (.static Bundle.tN "UNASSIGNED_STACK" Bundle.steD) ∨ w = .isRef (.static Bundle.tN "SUPPRESSED_SENTINEL" Bundle.listD) := th_ok_of (by decide +kernel)
theorem th_w_141 : ∀ w ∈ Cond.classLink (nm_Own 0) 137 "java/lang/IllegalStateException" :: Cond.initialized "java/lang/IllegalStateException" :: Bundle.ownAtoms (nm_Own 0) 141 "java/lang/IllegalStateException" th_up, ((w ∈ nm_Ts ∨ w ∈ nm_Ns) ∧ Jvm.Free.Str.ridesW w = true) ∨ w = .laysStatic Bundle.tN "UNASSIGNED_STACK" Bundle.steD ∨ w = .laysStatic Bundle.tN "SUPPRESSED_SENTINEL" Bundle.listD ∨ w = .isRef (.static Bundle.tN "UNASSIGNED_STACK" Bundle.steD) ∨ w = .isRef (.static Bundle.tN "SUPPRESSED_SENTINEL" Bundle.listD) := th_ok_of (by decide +kernel)
theorem th_w_195 : ∀ w ∈ Cond.classLink (nm_Own 0) 191 "java/lang/IndexOutOfBoundsException" :: Cond.initialized "java/lang/IndexOutOfBoundsException" :: Bundle.ownAtoms (nm_Own 0) 195 "java/lang/IndexOutOfBoundsException" th_up, ((w ∈ nm_Ts ∨ w ∈ nm_Ns) ∧ Jvm.Free.Str.ridesW w = true) ∨ w = .laysStatic Bundle.tN "UNASSIGNED_STACK" Bundle.steD ∨ w = .laysStatic Bundle.tN "SUPPRESSED_SENTINEL" Bundle.listD ∨ w = .isRef (.static Bundle.tN "UNASSIGNED_STACK" Bundle.steD) ∨ w = .isRef (.static Bundle.tN "SUPPRESSED_SENTINEL" Bundle.listD) := th_ok_of (by decide +kernel)
theorem th_s_111 : Cond.stringRef (nm_Own 0) 111 "no such deck or column" ∈ nm_Ns := List.mem_filter.mpr (by decide +kernel)
theorem th_s_123 : Cond.stringRef (nm_Own 0) 123 "no such deck or field" ∈ nm_Ns := List.mem_filter.mpr (by decide +kernel)
theorem th_s_132 : Cond.stringRef (nm_Own 0) 132 "no such two decks or field" ∈ nm_Ns := List.mem_filter.mpr (by decide +kernel)
theorem th_s_139 : Cond.stringRef (nm_Own 0) 139 "a deck is not sorted" ∈ nm_Ns := List.mem_filter.mpr (by decide +kernel)
theorem th_s_146 : Cond.stringRef (nm_Own 0) 146 "no such three decks or field" ∈ nm_Ns := List.mem_filter.mpr (by decide +kernel)
theorem th_s_152 : Cond.stringRef (nm_Own 0) 152 "no such board or two decks" ∈ nm_Ns := List.mem_filter.mpr (by decide +kernel)
theorem th_s_158 : Cond.stringRef (nm_Own 0) 158 "no such board, deck or column" ∈ nm_Ns := List.mem_filter.mpr (by decide +kernel)
theorem th_s_170 : Cond.stringRef (nm_Own 0) 170 "the product has a column of another field" ∈ nm_Ns := List.mem_filter.mpr (by decide +kernel)
theorem th_s_178 : Cond.stringRef (nm_Own 0) 178 "no such board or deck" ∈ nm_Ns := List.mem_filter.mpr (by decide +kernel)
theorem th_s_193 : Cond.stringRef (nm_Own 0) 193 "no such deck, card or column" ∈ nm_Ns := List.mem_filter.mpr (by decide +kernel)
theorem th_s_209 : Cond.stringRef (nm_Own 0) 209 "no such line or position" ∈ nm_Ns := List.mem_filter.mpr (by decide +kernel)
theorem th_s_214 : Cond.stringRef (nm_Own 0) 214 "no such counter" ∈ nm_Ns := List.mem_filter.mpr (by decide +kernel)
