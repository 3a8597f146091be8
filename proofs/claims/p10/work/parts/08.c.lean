theorem cmp0 (x y : Int64) : (lg_cmp x y = 0) = (x = y) := by
  unfold lg_cmp
  by_cases h1 : x > y
  · rw [if_pos h1]
    have : ¬ x = y := by rintro rfl; exact absurd h1 (by simp [Int64.lt_iff_toInt_lt])
    simp [this]
  · rw [if_neg h1]
    by_cases h2 : x = y
    · simp [h2]
    · simp [h2]
theorem cmpl (x y : Int64) : (lg_cmp x y < 0) = (x < y) := by
  unfold lg_cmp
  by_cases h1 : x > y
  · rw [if_pos h1]
    have h3 : y.toInt < x.toInt := Int64.lt_iff_toInt_lt.mp h1
    have : ¬ x < y := by rw [Int64.lt_iff_toInt_lt]; omega
    simp [this]
  · rw [if_neg h1]
    by_cases h2 : x = y
    · subst h2
      rw [if_pos rfl]
      have : ¬ x < x := by rw [Int64.lt_iff_toInt_lt]; omega
      simp [this]
    · rw [if_neg h2]
      have h3 : ¬ y.toInt < x.toInt := fun z => h1 (Int64.lt_iff_toInt_lt.mpr z)
      have h4 : x.toInt ≠ y.toInt := fun z => h2 (Int64.toInt_inj.mp z)
      have : x < y := by rw [Int64.lt_iff_toInt_lt]; omega
      simp [this]
theorem oL_none (o : Option Nat) (h : ∀ x, o = some x → x < 2 ^ 62) : (oL o = -1) = (o = none) := by
  cases o with
  | none => simp [oL]
  | some x =>
    have hx := h x rfl
    have : ¬ lN x = -1 := by
      rw [← Int64.toInt_inj, pk_lT (by omega)]
      have : (-1 : Int64).toInt = -1 := by decide
      omega
    simp [oL, this]
/-- the product of a card's two numbers -/
def mulR (s : Nat → Nat) (rt qy : Nat) : Option Nat := match numN s (rt % 16) (rt / 16 + 1) 0, numN s (qy % 16) (qy / 16 + 1) 0 with
  | some a, some b => some ((a * b + 5) / 10)
  | _, _ => none
/-- a card's fault in the multiplier -/
def mulF (s : Nat → Nat) (rt qy pr : Nat) : Nat := match mulR s rt qy with
  | some r => if 10 ^ (pr / 16 + 1) ≤ r then 3 else if ctB s r pr (pr % 16) (pr / 16 + 1) = true then 0 else 1
  | none => 1
/-- a card's signs behind the multiplier -/
def mulS (s : Nat → Nat) (rt qy pr : Nat) : Nat → Nat := match mulR s rt qy with
  | some r => pnN s r pr (pr % 16 + (pr / 16 + 1))
  | none => s
def facOk (y : Nat) : Prop := y < 96 ∧ y % 16 + (y / 16 + 1) ≤ 16
theorem numN_b {s : Nat → Nat} (hs : ∀ j, j < 16 → sg (s j)) {y : Nat} (hy : facOk y) : ∀ x, numN s (y % 16) (y / 16 + 1) 0 = some x → x < 1000000 := by
  intro x h
  have h1 := numN_lt hs _ _ _ _ hy.2 h
  have h2 : 10 ^ (y / 16 + 1) ≤ 10 ^ 6 := Nat.pow_le_pow_right (by decide) (by have := hy.1; omega)
  omega
theorem c_Multiplier_multiplyOn (G : mz_G) (n : Nat) (f : mz_H) {x rt qy pr K : Nat} {s : Nat → Nat → Nat} (hE : f 1000000000001 = mz_d) (hC : Cd f K s) (hx : x < K) (hK : K ≤ 200) (h1 : facOk rt) (h2 : facOk qy) (h3 : facOk pr) :
    mz_Ct G mk_P y_Multiplier_multiplyOn b_Multiplier_multiplyOn 10 (some .int) (r_Multiplier_multiplyOn 0 0) [.ref (172 + 2 * x), .int (nI rt), .int (nI qy), .int (nI pr)] n f (fun v n' f' => v = some (.int (nI (mulF (s x) rt qy pr))) ∧ n' = n ∧ f' = if mulF (s x) rt qy pr = 0 then mz_u f (173 + 2 * x) (aI 16 (fun j => nI (mulS (s x) rt qy pr j))) else f) := by
  have q := hC x hx
  obtain ⟨A, hA⟩ : ∃ A, A = numN (s x) (rt % 16) (rt / 16 + 1) 0 := ⟨_, rfl⟩
  obtain ⟨B, hB⟩ : ∃ B, B = numN (s x) (qy % 16) (qy / 16 + 1) 0 := ⟨_, rfl⟩
  have bA : ∀ z, A = some z → z < 1000000 := fun z hz => numN_b q.2.2 h1 z (by rw [← hA]; exact hz)
  have bB : ∀ z, B = some z → z < 1000000 := fun z hz => numN_b q.2.2 h2 z (by rw [← hB]; exact hz)
  refine mk_Ct 12 false [some (.ref (172 + 2 * x)), some (.int (nI rt)), some (.int (nI qy)), some (.int (nI pr)), none, none, none, none, none, none] (by decide) rfl (by decide) (Nat.le_of_ble_eq_true rfl) rfl ?_
  refine mz_go [2] 12 ?_
  simp only [mz_r0, ev_0, ev_1, ev_2, ev_3, ev_4, ev_5, ev_6, ev_7, ev_8, ev_9, ev_10, ev_11, ev_12, ev_13, ev_14, ev_15, ev_16, ev_17, ev_18, ev_19, ev_20, ev_21, ev_22, ev_23, ev_24, ev_25, ev_26, ev_27, ev_28, ev_29, ev_30, ev_31, ev_32, ev_33, ev_34, ev_35, ev_36, ev_37, ev_38, ev_39, ev_40, ev_41, ev_42, ev_43, ev_44, ev_45, ev_46, ev_47, ev_48, ev_49, ev_50, ev_51, ev_52, ev_53, ev_54, ev_55, ev_56, ev_57, ev_58, ev_59, ev_60, ev_61, ev_62, ev_63, ev_64, ev_65, ev_66, ev_67, ev_68, ev_69, ev_70, ev_71, ev_72, ev_73, ev_74, ev_75, ev_76, ev_77, ev_78, ev_79, ev_80, ev_81, ev_82, ev_83, mk_lit, mk_fin, mk_cat, mk_fit, mk_nar, mk_fld, mk_cls, mk_ty, mk_isr, List.mem_cons, List.not_mem_nil, or_false, or_true, false_or, true_or, Nat.reduceEqDiff, Nat.reduceAdd, Nat.reduceSub, Nat.reduceLT, Nat.reduceLeDiff, ↓reduceIte, if_true, if_false, List.getElem?_cons_zero, List.getElem?_cons_succ, List.set_cons_zero, List.set_cons_succ, List.length_cons, List.length_nil, mz_s1, mz_s2, mz_cl, true_and, and_true, false_and, and_false, List.append_nil, mk_b0, mk_b1, mk_b2, mk_bn, Value.int.injEq, Option.toList_some, Option.toList_none, List.cons_append, List.nil_append, Classical.not_not, Option.some.injEq, reduceCtorEq, ne_eq, not_true_eq_false, not_false_eq_true, false_implies, true_implies, mz_rl d_Multiplier_multiplyOn_0, mz_rl d_Multiplier_multiplyOn_1, nF_12]
  refine mz_callS (by simp only [d_Multiplier_multiplyOn_2, Nat.reduceAdd]) g_12_35 rfl (fun _ _ h => h) (c_Multiplier_numberIn G mk_P n f hC hx h1.1 h1.2) (by decide) (Nat.le_of_ble_eq_true rfl) rfl ?_; intro v_ n_ f_ h_; obtain ⟨rfl, hn_, hf_⟩ := h_; replace hn_ := hn_.symm; replace hf_ := hf_.symm; subst hn_; subst hf_
  rw [← hA]
  refine mz_go [9] 12 ?_
  simp only [mz_r0, ev_0, ev_1, ev_2, ev_3, ev_4, ev_5, ev_6, ev_7, ev_8, ev_9, ev_10, ev_11, ev_12, ev_13, ev_14, ev_15, ev_16, ev_17, ev_18, ev_19, ev_20, ev_21, ev_22, ev_23, ev_24, ev_25, ev_26, ev_27, ev_28, ev_29, ev_30, ev_31, ev_32, ev_33, ev_34, ev_35, ev_36, ev_37, ev_38, ev_39, ev_40, ev_41, ev_42, ev_43, ev_44, ev_45, ev_46, ev_47, ev_48, ev_49, ev_50, ev_51, ev_52, ev_53, ev_54, ev_55, ev_56, ev_57, ev_58, ev_59, ev_60, ev_61, ev_62, ev_63, ev_64, ev_65, ev_66, ev_67, ev_68, ev_69, ev_70, ev_71, ev_72, ev_73, ev_74, ev_75, ev_76, ev_77, ev_78, ev_79, ev_80, ev_81, ev_82, ev_83, mk_lit, mk_fin, mk_cat, mk_fit, mk_nar, mk_fld, mk_cls, mk_ty, mk_isr, List.mem_cons, List.not_mem_nil, or_false, or_true, false_or, true_or, Nat.reduceEqDiff, Nat.reduceAdd, Nat.reduceSub, Nat.reduceLT, Nat.reduceLeDiff, ↓reduceIte, if_true, if_false, List.getElem?_cons_zero, List.getElem?_cons_succ, List.set_cons_zero, List.set_cons_succ, List.length_cons, List.length_nil, mz_s1, mz_s2, mz_cl, true_and, and_true, false_and, and_false, List.append_nil, mk_b0, mk_b1, mk_b2, mk_bn, Value.int.injEq, Option.toList_some, Option.toList_none, List.cons_append, List.nil_append, Classical.not_not, Option.some.injEq, reduceCtorEq, ne_eq, not_true_eq_false, not_false_eq_true, false_implies, true_implies, mz_rl d_Multiplier_multiplyOn_5, mz_rl d_Multiplier_multiplyOn_7, mz_rl d_Multiplier_multiplyOn_8, nF_12]
  refine mz_callS (by simp only [d_Multiplier_multiplyOn_9, Nat.reduceAdd]) g_12_35 rfl (fun _ _ h => h) (c_Multiplier_numberIn G mk_P n f hC hx h2.1 h2.2) (by decide) (Nat.le_of_ble_eq_true rfl) rfl ?_; intro v_ n_ f_ h_; obtain ⟨rfl, hn_, hf_⟩ := h_; replace hn_ := hn_.symm; replace hf_ := hf_.symm; subst hn_; subst hf_
  rw [← hB]
  have eA := oL_none A (fun z hz => by have := bA z hz; omega)
  have eB := oL_none B (fun z hz => by have := bB z hz; omega)
  refine mz_go [34] 30 ?_
  simp only [mz_r0, ev_0, ev_1, ev_2, ev_3, ev_4, ev_5, ev_6, ev_7, ev_8, ev_9, ev_10, ev_11, ev_12, ev_13, ev_14, ev_15, ev_16, ev_17, ev_18, ev_19, ev_20, ev_21, ev_22, ev_23, ev_24, ev_25, ev_26, ev_27, ev_28, ev_29, ev_30, ev_31, ev_32, ev_33, ev_34, ev_35, ev_36, ev_37, ev_38, ev_39, ev_40, ev_41, ev_42, ev_43, ev_44, ev_45, ev_46, ev_47, ev_48, ev_49, ev_50, ev_51, ev_52, ev_53, ev_54, ev_55, ev_56, ev_57, ev_58, ev_59, ev_60, ev_61, ev_62, ev_63, ev_64, ev_65, ev_66, ev_67, ev_68, ev_69, ev_70, ev_71, ev_72, ev_73, ev_74, ev_75, ev_76, ev_77, ev_78, ev_79, ev_80, ev_81, ev_82, ev_83, mk_lit, mk_fin, mk_cat, mk_fit, mk_nar, mk_fld, mk_cls, mk_ty, mk_isr, List.mem_cons, List.not_mem_nil, or_false, or_true, false_or, true_or, Nat.reduceEqDiff, Nat.reduceAdd, Nat.reduceSub, Nat.reduceLT, Nat.reduceLeDiff, ↓reduceIte, if_true, if_false, List.getElem?_cons_zero, List.getElem?_cons_succ, List.set_cons_zero, List.set_cons_succ, List.length_cons, List.length_nil, mz_s1, mz_s2, mz_cl, true_and, and_true, false_and, and_false, List.append_nil, mk_b0, mk_b1, mk_b2, mk_bn, Value.int.injEq, Option.toList_some, Option.toList_none, List.cons_append, List.nil_append, Classical.not_not, Option.some.injEq, reduceCtorEq, ne_eq, not_true_eq_false, not_false_eq_true, false_implies, true_implies, mz_rl d_Multiplier_multiplyOn_12, mz_rl d_Multiplier_multiplyOn_14, mz_rl d_Multiplier_multiplyOn_16, mz_rl d_Multiplier_multiplyOn_19, mz_rl d_Multiplier_multiplyOn_20, mz_rl d_Multiplier_multiplyOn_23, mz_rl d_Multiplier_multiplyOn_25, mz_rl d_Multiplier_multiplyOn_28, mz_rl d_Multiplier_multiplyOn_29, mz_rl d_Multiplier_multiplyOn_32, mz_rl d_Multiplier_multiplyOn_33, j_Multiplier_multiplyOn_20, j_Multiplier_multiplyOn_29, nF_12, mk_con, cmp0, eA, eB]
  have hno : (A = none ∨ B = none) → mulF (s x) rt qy pr = 1 := by
    intro h
    unfold mulF mulR
    rw [← hA, ← hB]
    rcases h with h | h
    · rw [h]
    · rw [h]; cases A <;> rfl
  refine ⟨fun h => ?_, fun h => ⟨fun h' => ?_, fun h' => ?_⟩⟩
  · rw [hno (Or.inl h)]; simp
  · cases A with
    | none => exact absurd rfl h
    | some a =>
      cases B with
      | none => exact absurd rfl h'
      | some b =>
        have ha := bA a rfl
        have hb := bB b rfl
        have hab : a * b ≤ 1000000 * 1000000 := Nat.mul_le_mul (by omega) (by omega)
        obtain ⟨r, hr⟩ : ∃ r, r = (a * b + 5) / 10 := ⟨_, rfl⟩
        have hr2 : r ≤ 100000000001 := by omega
        have hR : mulR (s x) rt qy = some r := by unfold mulR; rw [← hA, ← hB, hr]
        have n10 : ¬ (lN 10 : Int64) = 0 := by decide
        refine mz_go [55] 30 ?_
        simp only [mz_r0, ev_0, ev_1, ev_2, ev_3, ev_4, ev_5, ev_6, ev_7, ev_8, ev_9, ev_10, ev_11, ev_12, ev_13, ev_14, ev_15, ev_16, ev_17, ev_18, ev_19, ev_20, ev_21, ev_22, ev_23, ev_24, ev_25, ev_26, ev_27, ev_28, ev_29, ev_30, ev_31, ev_32, ev_33, ev_34, ev_35, ev_36, ev_37, ev_38, ev_39, ev_40, ev_41, ev_42, ev_43, ev_44, ev_45, ev_46, ev_47, ev_48, ev_49, ev_50, ev_51, ev_52, ev_53, ev_54, ev_55, ev_56, ev_57, ev_58, ev_59, ev_60, ev_61, ev_62, ev_63, ev_64, ev_65, ev_66, ev_67, ev_68, ev_69, ev_70, ev_71, ev_72, ev_73, ev_74, ev_75, ev_76, ev_77, ev_78, ev_79, ev_80, ev_81, ev_82, ev_83, mk_lit, mk_fin, mk_cat, mk_fit, mk_nar, mk_fld, mk_cls, mk_ty, mk_isr, List.mem_cons, List.not_mem_nil, or_false, or_true, false_or, true_or, Nat.reduceEqDiff, Nat.reduceAdd, Nat.reduceSub, Nat.reduceLT, Nat.reduceLeDiff, ↓reduceIte, if_true, if_false, List.getElem?_cons_zero, List.getElem?_cons_succ, List.set_cons_zero, List.set_cons_succ, List.length_cons, List.length_nil, mz_s1, mz_s2, mz_cl, true_and, and_true, false_and, and_false, List.append_nil, mk_b0, mk_b1, mk_b2, mk_bn, Value.int.injEq, Option.toList_some, Option.toList_none, List.cons_append, List.nil_append, Classical.not_not, Option.some.injEq, reduceCtorEq, ne_eq, not_true_eq_false, not_false_eq_true, false_implies, true_implies, mz_rl d_Multiplier_multiplyOn_34, mz_rl d_Multiplier_multiplyOn_36, mz_rl d_Multiplier_multiplyOn_38, mz_rl d_Multiplier_multiplyOn_39, mz_rl d_Multiplier_multiplyOn_42, mz_rl d_Multiplier_multiplyOn_43, mz_rl d_Multiplier_multiplyOn_46, mz_rl d_Multiplier_multiplyOn_47, mz_rl d_Multiplier_multiplyOn_49, mz_rl d_Multiplier_multiplyOn_51, mz_rl d_Multiplier_multiplyOn_54, nF_12, mk_con, oL, l10, l5, lN_mul, lN_add, n10, pk_lDiv (show a * b + 5 < 2 ^ 63 by omega) (show 0 < 10 by decide) (show 10 < 2 ^ 63 by decide), mk_sta, mk_P1]
        rw [← hr]
        refine mz_callS (by simp only [d_Multiplier_multiplyOn_55, Nat.reduceAdd]) g_12_49 rfl (fun _ _ h => h) (c_Office_widthOf G mk_P n f h3.1) (by decide) (Nat.le_of_ble_eq_true rfl) rfl ?_; intro v_ n_ f_ h_; obtain ⟨rfl, hn_, hf_⟩ := h_; replace hn_ := hn_.symm; replace hf_ := hf_.symm; subst hn_; subst hf_
        have h7 : pr / 16 + 1 < 7 := by have := h3.1; omega
        have hp := pw10 _ h7
        have eC : (lg_cmp (lN r) (nI (10 ^ (pr / 16 + 1))).toInt64 < 0) = (r < 10 ^ (pr / 16 + 1)) := by
          rw [cmpl, nI_l hp, pk_lLT (by omega) (by omega)]
        refine mz_go [71] 30 ?_
        simp only [mz_r0, ev_0, ev_1, ev_2, ev_3, ev_4, ev_5, ev_6, ev_7, ev_8, ev_9, ev_10, ev_11, ev_12, ev_13, ev_14, ev_15, ev_16, ev_17, ev_18, ev_19, ev_20, ev_21, ev_22, ev_23, ev_24, ev_25, ev_26, ev_27, ev_28, ev_29, ev_30, ev_31, ev_32, ev_33, ev_34, ev_35, ev_36, ev_37, ev_38, ev_39, ev_40, ev_41, ev_42, ev_43, ev_44, ev_45, ev_46, ev_47, ev_48, ev_49, ev_50, ev_51, ev_52, ev_53, ev_54, ev_55, ev_56, ev_57, ev_58, ev_59, ev_60, ev_61, ev_62, ev_63, ev_64, ev_65, ev_66, ev_67, ev_68, ev_69, ev_70, ev_71, ev_72, ev_73, ev_74, ev_75, ev_76, ev_77, ev_78, ev_79, ev_80, ev_81, ev_82, ev_83, mk_lit, mk_fin, mk_cat, mk_fit, mk_nar, mk_fld, mk_cls, mk_ty, mk_isr, List.mem_cons, List.not_mem_nil, or_false, or_true, false_or, true_or, Nat.reduceEqDiff, Nat.reduceAdd, Nat.reduceSub, Nat.reduceLT, Nat.reduceLeDiff, ↓reduceIte, if_true, if_false, List.getElem?_cons_zero, List.getElem?_cons_succ, List.set_cons_zero, List.set_cons_succ, List.length_cons, List.length_nil, mz_s1, mz_s2, mz_cl, true_and, and_true, false_and, and_false, List.append_nil, mk_b0, mk_b1, mk_b2, mk_bn, Value.int.injEq, Option.toList_some, Option.toList_none, List.cons_append, List.nil_append, Classical.not_not, Option.some.injEq, reduceCtorEq, ne_eq, not_true_eq_false, not_false_eq_true, false_implies, true_implies, mz_rl d_Multiplier_multiplyOn_58, mz_rl d_Multiplier_multiplyOn_59, mz_rl d_Multiplier_multiplyOn_60, mz_rl d_Multiplier_multiplyOn_61, mz_rl d_Multiplier_multiplyOn_64, mz_rl d_Multiplier_multiplyOn_65, mz_rl d_Multiplier_multiplyOn_66, mz_rl d_Multiplier_multiplyOn_67, mz_rl d_Multiplier_multiplyOn_68, mz_rl d_Multiplier_multiplyOn_70, j_Multiplier_multiplyOn_61, nF_12, hE, mz_d, mk_P1, vp_in_nI h7 (show 7 < 2 ^ 31 by decide), nI_clamp (show pr / 16 + 1 < 2 ^ 31 by omega), pwN _ h7, eC, lN_i]
        refine ⟨fun h5 => ?_, fun h5 => ?_⟩
        · have hr3 : r < 2 ^ 31 := by omega
          refine mz_callS (by simp only [d_Multiplier_multiplyOn_71, Nat.reduceAdd]) g_12_52 rfl (fun _ _ h => h) (c_Multiplier_canTakeNumber G n f hE hC hx hr3 h3.1 h3.2) (by decide) (Nat.le_of_ble_eq_true rfl) rfl ?_; intro v_ n_ f_ h_; obtain ⟨rfl, hn_, hf_⟩ := h_; replace hn_ := hn_.symm; replace hf_ := hf_.symm; subst hn_; subst hf_
          refine mz_go [84] 30 ?_
          simp only [mz_r0, ev_0, ev_1, ev_2, ev_3, ev_4, ev_5, ev_6, ev_7, ev_8, ev_9, ev_10, ev_11, ev_12, ev_13, ev_14, ev_15, ev_16, ev_17, ev_18, ev_19, ev_20, ev_21, ev_22, ev_23, ev_24, ev_25, ev_26, ev_27, ev_28, ev_29, ev_30, ev_31, ev_32, ev_33, ev_34, ev_35, ev_36, ev_37, ev_38, ev_39, ev_40, ev_41, ev_42, ev_43, ev_44, ev_45, ev_46, ev_47, ev_48, ev_49, ev_50, ev_51, ev_52, ev_53, ev_54, ev_55, ev_56, ev_57, ev_58, ev_59, ev_60, ev_61, ev_62, ev_63, ev_64, ev_65, ev_66, ev_67, ev_68, ev_69, ev_70, ev_71, ev_72, ev_73, ev_74, ev_75, ev_76, ev_77, ev_78, ev_79, ev_80, ev_81, ev_82, ev_83, mk_lit, mk_fin, mk_cat, mk_fit, mk_nar, mk_fld, mk_cls, mk_ty, mk_isr, List.mem_cons, List.not_mem_nil, or_false, or_true, false_or, true_or, Nat.reduceEqDiff, Nat.reduceAdd, Nat.reduceSub, Nat.reduceLT, Nat.reduceLeDiff, ↓reduceIte, if_true, if_false, List.getElem?_cons_zero, List.getElem?_cons_succ, List.set_cons_zero, List.set_cons_succ, List.length_cons, List.length_nil, mz_s1, mz_s2, mz_cl, true_and, and_true, false_and, and_false, List.append_nil, mk_b0, mk_b1, mk_b2, mk_bn, Value.int.injEq, Option.toList_some, Option.toList_none, List.cons_append, List.nil_append, Classical.not_not, Option.some.injEq, reduceCtorEq, ne_eq, not_true_eq_false, not_false_eq_true, false_implies, true_implies, mz_rl d_Multiplier_multiplyOn_74, mz_rl d_Multiplier_multiplyOn_77, mz_rl d_Multiplier_multiplyOn_78, mz_rl d_Multiplier_multiplyOn_79, mz_rl d_Multiplier_multiplyOn_80, mz_rl d_Multiplier_multiplyOn_81, mz_rl d_Multiplier_multiplyOn_83, j_Multiplier_multiplyOn_74, nF_12, lN_i]
          refine ⟨fun h6 => ?_, fun h6 => ?_⟩
          · have hF : mulF (s x) rt qy pr = 0 := by unfold mulF; rw [hR]; simp only []; rw [if_neg (by omega), if_pos h6]
            refine mz_callS (by simp only [d_Multiplier_multiplyOn_84, Nat.reduceAdd]) g_12_56 rfl (fun _ _ h => h) (c_Multiplier_punchNumber G n f hE hC hx hK hr3 h3.1 h3.2) (by decide) (Nat.le_of_ble_eq_true rfl) rfl ?_; intro v_ n_ f_ h_; obtain ⟨rfl, hn_, hf_⟩ := h_; replace hn_ := hn_.symm; replace hf_ := hf_.symm; subst hn_; subst hf_
            refine mz_go [] 30 ?_
            simp only [mz_r0, ev_0, ev_1, ev_2, ev_3, ev_4, ev_5, ev_6, ev_7, ev_8, ev_9, ev_10, ev_11, ev_12, ev_13, ev_14, ev_15, ev_16, ev_17, ev_18, ev_19, ev_20, ev_21, ev_22, ev_23, ev_24, ev_25, ev_26, ev_27, ev_28, ev_29, ev_30, ev_31, ev_32, ev_33, ev_34, ev_35, ev_36, ev_37, ev_38, ev_39, ev_40, ev_41, ev_42, ev_43, ev_44, ev_45, ev_46, ev_47, ev_48, ev_49, ev_50, ev_51, ev_52, ev_53, ev_54, ev_55, ev_56, ev_57, ev_58, ev_59, ev_60, ev_61, ev_62, ev_63, ev_64, ev_65, ev_66, ev_67, ev_68, ev_69, ev_70, ev_71, ev_72, ev_73, ev_74, ev_75, ev_76, ev_77, ev_78, ev_79, ev_80, ev_81, ev_82, ev_83, mk_lit, mk_fin, mk_cat, mk_fit, mk_nar, mk_fld, mk_cls, mk_ty, mk_isr, List.mem_cons, List.not_mem_nil, or_false, or_true, false_or, true_or, Nat.reduceEqDiff, Nat.reduceAdd, Nat.reduceSub, Nat.reduceLT, Nat.reduceLeDiff, ↓reduceIte, if_true, if_false, List.getElem?_cons_zero, List.getElem?_cons_succ, List.set_cons_zero, List.set_cons_succ, List.length_cons, List.length_nil, mz_s1, mz_s2, mz_cl, true_and, and_true, false_and, and_false, List.append_nil, mk_b0, mk_b1, mk_b2, mk_bn, Value.int.injEq, Option.toList_some, Option.toList_none, List.cons_append, List.nil_append, Classical.not_not, Option.some.injEq, reduceCtorEq, ne_eq, not_true_eq_false, not_false_eq_true, false_implies, true_implies, mz_rl d_Multiplier_multiplyOn_87, mz_rl d_Multiplier_multiplyOn_88, nF_12, hF]
            unfold mulS; rw [hR]
          · have hF : mulF (s x) rt qy pr = 1 := by unfold mulF; rw [hR]; simp only []; rw [if_neg (by omega), if_neg h6]
            rw [hF]; simp
        · have hF : mulF (s x) rt qy pr = 3 := by unfold mulF; rw [hR]; simp only []; rw [if_pos (by omega)]
          rw [hF]; simp
  · rw [hno (Or.inr h')]; simp
theorem mulS_sg {s : Nat → Nat} (hs : ∀ j, j < 16 → sg (s j)) (rt qy pr : Nat) : ∀ j, j < 16 → sg (mulS s rt qy pr j) := by
  intro j hj
  unfold mulS
  cases mulR s rt qy with
  | none => exact hs j hj
  | some r =>
    show sg (pnN s r pr (pr % 16 + (pr / 16 + 1)) j)
    unfold pnN
    split
    · exact snN_sg _ _ _
    · exact hs j hj
/-- addresses below 172 outside of S hold what they held -/
def Fr (f F : mz_H) (S : List Nat) : Prop := ∀ a, (a < 172 ∨ a = 1000000000001) → a ∉ S → F a = f a
theorem Fr_rf {f : mz_H} {S : List Nat} : Fr f f S := fun _ _ _ => rfl
theorem Fr_u {f F : mz_H} {S : List Nat} (h : Fr f F S) {a : Nat} (ha : a ∈ S ∨ 172 ≤ a ∧ a ≠ 1000000000001) (x : mz_C) : Fr f (mz_u F a x) S := fun b hb hS => by
  rw [mz_u_n (by rintro rfl; rcases ha with ha | ha; exact hS ha; omega)]
  exact h b hb hS
/-- the light's cell behind a run: the fault's kind, and its card -/
def lightC (k i : Nat) : mz_C := .inr (5, [.int (nI k), .int (if k = 0 then -1 else nI i)])
/-- a deck's run through the multiplier, from card i on: fault, card, the cards' signs -/
def muF (rt qy pr : Nat) (c : Nat → Nat) : Nat → Nat → (Nat → Nat → Nat) → Nat × Nat × (Nat → Nat → Nat)
  | 0, i, s => (0, i, s)
  | m + 1, i, s => if mulF (s (c i)) rt qy pr = 0 then muF rt qy pr c m (i + 1) (va_up s (c i) (mulS (s (c i)) rt qy pr)) else (mulF (s (c i)) rt qy pr, i, s)
theorem l_Multiplier_goThrough (G : mz_G) (n : Nat) (f : mz_H) {d a sz rt qy pr K : Nat} {u w : Int32} {g : Nat → Option Nat} {c : Nat → Nat} (hE : f 1000000000001 = mz_d) (hd1 : f d = .inr (4, [.ref a, .int (nI sz)])) (hd2 : f a = aQ 6 200 g) (hd4 : f 4 = .inr (5, [.int u, .int w])) (hd : d < 172) (ha : a < 172) (h4d : d ≠ 4) (h4a : a ≠ 4) (hs : sz ≤ 200) (hP : Ps g sz c K) (hK : K ≤ 200) (h1 : facOk rt) (h2 : facOk qy) (h3 : facOk pr) (R : Nat × Nat × (Nat → Nat → Nat)) :
    ∀ m i w6 F s, i + m = sz → muF rt qy pr c m i s = R → Fr f F [4] → F 4 = f 4 → Cd F K s → mz_X G mk_P 12 false b_Multiplier_goThrough 7 (some .int) (r_Multiplier_goThrough 0 0) (fun v n' F' => v = some (.int (nI R.2.1)) ∧ n' = n ∧ Fr f F' [4] ∧ F' 4 = lightC R.1 R.2.1 ∧ Cd F' K R.2.2) (fun _ _ _ => False) 3 [some (.ref d), some (.int (nI rt)), some (.int (nI qy)), some (.int (nI pr)), some (.ref 4), some (.int (nI i)), w6] [] 0 0 n F := by
  intro m
  induction m with
  | zero =>
    intro i w6 F s hi hR hF h4 hC
    subst hR
    have k1 : F d = .inr (4, [.ref a, .int (nI sz)]) := by rw [hF d (Or.inl hd) (by simp [h4d])]; exact hd1
    have k4 : F 4 = .inr (5, [.int u, .int w]) := by rw [h4]; exact hd4
    refine mz_go [53] 12 ?_
    simp only [mz_r0, ev_0, ev_1, ev_2, ev_3, ev_4, ev_5, ev_6, ev_7, ev_8, ev_9, ev_10, ev_11, ev_12, ev_13, ev_14, ev_15, ev_16, ev_17, ev_18, ev_19, ev_20, ev_21, ev_22, ev_23, ev_24, ev_25, ev_26, ev_27, ev_28, ev_29, ev_30, ev_31, ev_32, ev_33, ev_34, ev_35, ev_36, ev_37, ev_38, ev_39, ev_40, ev_41, ev_42, ev_43, ev_44, ev_45, ev_46, ev_47, ev_48, ev_49, ev_50, ev_51, ev_52, ev_53, ev_54, ev_55, ev_56, ev_57, ev_58, ev_59, ev_60, ev_61, ev_62, ev_63, ev_64, ev_65, ev_66, ev_67, ev_68, ev_69, ev_70, ev_71, ev_72, ev_73, ev_74, ev_75, ev_76, ev_77, ev_78, ev_79, ev_80, ev_81, ev_82, ev_83, mk_lit, mk_fin, mk_cat, mk_fit, mk_nar, mk_fld, mk_cls, mk_ty, mk_isr, List.mem_cons, List.not_mem_nil, or_false, or_true, false_or, true_or, Nat.reduceEqDiff, Nat.reduceAdd, Nat.reduceSub, Nat.reduceLT, Nat.reduceLeDiff, ↓reduceIte, if_true, if_false, List.getElem?_cons_zero, List.getElem?_cons_succ, List.set_cons_zero, List.set_cons_succ, List.length_cons, List.length_nil, mz_s1, mz_s2, mz_cl, true_and, and_true, false_and, and_false, List.append_nil, mk_b0, mk_b1, mk_b2, mk_bn, Value.int.injEq, Option.toList_some, Option.toList_none, List.cons_append, List.nil_append, Classical.not_not, Option.some.injEq, reduceCtorEq, ne_eq, not_true_eq_false, not_false_eq_true, false_implies, true_implies, mz_rl d_Multiplier_goThrough_3, mz_rl d_Multiplier_goThrough_5, mz_rl d_Multiplier_goThrough_6, mz_rl d_Multiplier_goThrough_9, mz_rl d_Multiplier_goThrough_12, mz_rl d_Multiplier_goThrough_13, mz_rl d_Multiplier_goThrough_15, mz_rl d_Multiplier_goThrough_47, mz_rl d_Multiplier_goThrough_49, mz_rl d_Multiplier_goThrough_50, j_Multiplier_goThrough_9, nF_12, k1, nI_leI (show sz < 2 ^ 31 by omega) (show i < 2 ^ 31 by omega), show sz ≤ i by omega]
    refine mz_callV (by simp only [d_Multiplier_goThrough_53, Nat.reduceAdd]) g_12_31 rfl (fun _ _ h => h) (c_FaultLight_allDone G mk_P n F (x := nI sz) k4) k4 rfl rfl (by decide) (Nat.le_of_ble_eq_true rfl) rfl ?_; intro v_ n_ f_ h_; obtain ⟨rfl, hn_, hf_⟩ := h_; replace hn_ := hn_.symm; replace hf_ := hf_.symm; subst hn_; subst hf_
    refine mz_go [] 12 ?_
    simp only [mz_r0, ev_0, ev_1, ev_2, ev_3, ev_4, ev_5, ev_6, ev_7, ev_8, ev_9, ev_10, ev_11, ev_12, ev_13, ev_14, ev_15, ev_16, ev_17, ev_18, ev_19, ev_20, ev_21, ev_22, ev_23, ev_24, ev_25, ev_26, ev_27, ev_28, ev_29, ev_30, ev_31, ev_32, ev_33, ev_34, ev_35, ev_36, ev_37, ev_38, ev_39, ev_40, ev_41, ev_42, ev_43, ev_44, ev_45, ev_46, ev_47, ev_48, ev_49, ev_50, ev_51, ev_52, ev_53, ev_54, ev_55, ev_56, ev_57, ev_58, ev_59, ev_60, ev_61, ev_62, ev_63, ev_64, ev_65, ev_66, ev_67, ev_68, ev_69, ev_70, ev_71, ev_72, ev_73, ev_74, ev_75, ev_76, ev_77, ev_78, ev_79, ev_80, ev_81, ev_82, ev_83, mk_lit, mk_fin, mk_cat, mk_fit, mk_nar, mk_fld, mk_cls, mk_ty, mk_isr, List.mem_cons, List.not_mem_nil, or_false, or_true, false_or, true_or, Nat.reduceEqDiff, Nat.reduceAdd, Nat.reduceSub, Nat.reduceLT, Nat.reduceLeDiff, ↓reduceIte, if_true, if_false, List.getElem?_cons_zero, List.getElem?_cons_succ, List.set_cons_zero, List.set_cons_succ, List.length_cons, List.length_nil, mz_s1, mz_s2, mz_cl, true_and, and_true, false_and, and_false, List.append_nil, mk_b0, mk_b1, mk_b2, mk_bn, Value.int.injEq, Option.toList_some, Option.toList_none, List.cons_append, List.nil_append, Classical.not_not, Option.some.injEq, reduceCtorEq, ne_eq, not_true_eq_false, not_false_eq_true, false_implies, true_implies, mz_rl d_Multiplier_goThrough_56, nF_12]
    exact ⟨by show nI sz = nI i; congr 1; omega, Fr_u hF (Or.inl (by simp)) _, mz_u_s _ _ _, Cd_u hC (by decide) _⟩
  | succ m ih =>
    intro i w6 F s hi hR hF h4 hC
    unfold muF at hR
    have k1 : F d = .inr (4, [.ref a, .int (nI sz)]) := by rw [hF d (Or.inl hd) (by simp [h4d])]; exact hd1
    have k2 : F a = aQ 6 200 g := by rw [hF a (Or.inl ha) (by simp [h4a])]; exact hd2
    have k4 : F 4 = .inr (5, [.int u, .int w]) := by rw [h4]; exact hd4
    have kE : F 1000000000001 = mz_d := by rw [hF _ (Or.inr rfl) (by simp)]; exact hE
    have e1 := hP i (by omega)
    refine mz_go [15] 12 ?_
    simp only [mz_r0, ev_0, ev_1, ev_2, ev_3, ev_4, ev_5, ev_6, ev_7, ev_8, ev_9, ev_10, ev_11, ev_12, ev_13, ev_14, ev_15, ev_16, ev_17, ev_18, ev_19, ev_20, ev_21, ev_22, ev_23, ev_24, ev_25, ev_26, ev_27, ev_28, ev_29, ev_30, ev_31, ev_32, ev_33, ev_34, ev_35, ev_36, ev_37, ev_38, ev_39, ev_40, ev_41, ev_42, ev_43, ev_44, ev_45, ev_46, ev_47, ev_48, ev_49, ev_50, ev_51, ev_52, ev_53, ev_54, ev_55, ev_56, ev_57, ev_58, ev_59, ev_60, ev_61, ev_62, ev_63, ev_64, ev_65, ev_66, ev_67, ev_68, ev_69, ev_70, ev_71, ev_72, ev_73, ev_74, ev_75, ev_76, ev_77, ev_78, ev_79, ev_80, ev_81, ev_82, ev_83, mk_lit, mk_fin, mk_cat, mk_fit, mk_nar, mk_fld, mk_cls, mk_ty, mk_isr, List.mem_cons, List.not_mem_nil, or_false, or_true, false_or, true_or, Nat.reduceEqDiff, Nat.reduceAdd, Nat.reduceSub, Nat.reduceLT, Nat.reduceLeDiff, ↓reduceIte, if_true, if_false, List.getElem?_cons_zero, List.getElem?_cons_succ, List.set_cons_zero, List.set_cons_succ, List.length_cons, List.length_nil, mz_s1, mz_s2, mz_cl, true_and, and_true, false_and, and_false, List.append_nil, mk_b0, mk_b1, mk_b2, mk_bn, Value.int.injEq, Option.toList_some, Option.toList_none, List.cons_append, List.nil_append, Classical.not_not, Option.some.injEq, reduceCtorEq, ne_eq, not_true_eq_false, not_false_eq_true, false_implies, true_implies, mz_rl d_Multiplier_goThrough_3, mz_rl d_Multiplier_goThrough_5, mz_rl d_Multiplier_goThrough_6, mz_rl d_Multiplier_goThrough_9, mz_rl d_Multiplier_goThrough_12, mz_rl d_Multiplier_goThrough_13, mz_rl d_Multiplier_goThrough_47, mz_rl d_Multiplier_goThrough_49, mz_rl d_Multiplier_goThrough_50, mz_rl d_Multiplier_goThrough_53, j_Multiplier_goThrough_9, nF_12, k1, nI_leI (show sz < 2 ^ 31 by omega) (show i < 2 ^ 31 by omega), show ¬ sz ≤ i by omega]
    refine mz_callV (by simp only [d_Multiplier_goThrough_15, Nat.reduceAdd]) g_12_15 rfl (fun _ _ h => h) (c_Deck_at G mk_P n F k1 k2 (show i < 200 by omega) e1.1) k1 rfl rfl (by decide) (Nat.le_of_ble_eq_true rfl) rfl ?_; intro v_ n_ f_ h_; obtain ⟨rfl, hn_, hf_⟩ := h_; replace hn_ := hn_.symm; replace hf_ := hf_.symm; subst hn_; subst hf_
    refine mz_go [21] 12 ?_
    simp only [mz_r0, ev_0, ev_1, ev_2, ev_3, ev_4, ev_5, ev_6, ev_7, ev_8, ev_9, ev_10, ev_11, ev_12, ev_13, ev_14, ev_15, ev_16, ev_17, ev_18, ev_19, ev_20, ev_21, ev_22, ev_23, ev_24, ev_25, ev_26, ev_27, ev_28, ev_29, ev_30, ev_31, ev_32, ev_33, ev_34, ev_35, ev_36, ev_37, ev_38, ev_39, ev_40, ev_41, ev_42, ev_43, ev_44, ev_45, ev_46, ev_47, ev_48, ev_49, ev_50, ev_51, ev_52, ev_53, ev_54, ev_55, ev_56, ev_57, ev_58, ev_59, ev_60, ev_61, ev_62, ev_63, ev_64, ev_65, ev_66, ev_67, ev_68, ev_69, ev_70, ev_71, ev_72, ev_73, ev_74, ev_75, ev_76, ev_77, ev_78, ev_79, ev_80, ev_81, ev_82, ev_83, mk_lit, mk_fin, mk_cat, mk_fit, mk_nar, mk_fld, mk_cls, mk_ty, mk_isr, List.mem_cons, List.not_mem_nil, or_false, or_true, false_or, true_or, Nat.reduceEqDiff, Nat.reduceAdd, Nat.reduceSub, Nat.reduceLT, Nat.reduceLeDiff, ↓reduceIte, if_true, if_false, List.getElem?_cons_zero, List.getElem?_cons_succ, List.set_cons_zero, List.set_cons_succ, List.length_cons, List.length_nil, mz_s1, mz_s2, mz_cl, true_and, and_true, false_and, and_false, List.append_nil, mk_b0, mk_b1, mk_b2, mk_bn, Value.int.injEq, Option.toList_some, Option.toList_none, List.cons_append, List.nil_append, Classical.not_not, Option.some.injEq, reduceCtorEq, ne_eq, not_true_eq_false, not_false_eq_true, false_implies, true_implies, mz_rl d_Multiplier_goThrough_18, mz_rl d_Multiplier_goThrough_19, mz_rl d_Multiplier_goThrough_20, nF_12]
    refine mz_callS (by simp only [d_Multiplier_goThrough_21, Nat.reduceAdd]) g_12_19 rfl (fun _ _ h => h) (c_Multiplier_multiplyOn G n F kE hC e1.2 hK h1 h2 h3) (by decide) (Nat.le_of_ble_eq_true rfl) rfl ?_; intro v_ n_ f_ h_; obtain ⟨rfl, hn_, hf_⟩ := h_; replace hn_ := hn_.symm; replace hf_ := hf_.symm; subst hn_; subst hf_
    have hm3 : mulF (s (c i)) rt qy pr < 2 ^ 31 := by
      unfold mulF; split
      · split; decide; split <;> decide
      · decide
    have z0 : (nI (mulF (s (c i)) rt qy pr) = 0) = (mulF (s (c i)) rt qy pr = 0) := by
      rw [mk_eq, mk_nti hm3]; simp
    by_cases h0 : mulF (s (c i)) rt qy pr = 0
    · rw [if_pos h0] at hR ⊢
      refine mz_go [3] 12 ?_
      have z1 : (nI (mulF (s (c i)) rt qy pr) = 0) = True := by rw [z0]; exact eq_true h0
      simp only [mz_r0, ev_0, ev_1, ev_2, ev_3, ev_4, ev_5, ev_6, ev_7, ev_8, ev_9, ev_10, ev_11, ev_12, ev_13, ev_14, ev_15, ev_16, ev_17, ev_18, ev_19, ev_20, ev_21, ev_22, ev_23, ev_24, ev_25, ev_26, ev_27, ev_28, ev_29, ev_30, ev_31, ev_32, ev_33, ev_34, ev_35, ev_36, ev_37, ev_38, ev_39, ev_40, ev_41, ev_42, ev_43, ev_44, ev_45, ev_46, ev_47, ev_48, ev_49, ev_50, ev_51, ev_52, ev_53, ev_54, ev_55, ev_56, ev_57, ev_58, ev_59, ev_60, ev_61, ev_62, ev_63, ev_64, ev_65, ev_66, ev_67, ev_68, ev_69, ev_70, ev_71, ev_72, ev_73, ev_74, ev_75, ev_76, ev_77, ev_78, ev_79, ev_80, ev_81, ev_82, ev_83, mk_lit, mk_fin, mk_cat, mk_fit, mk_nar, mk_fld, mk_cls, mk_ty, mk_isr, List.mem_cons, List.not_mem_nil, or_false, or_true, false_or, true_or, Nat.reduceEqDiff, Nat.reduceAdd, Nat.reduceSub, Nat.reduceLT, Nat.reduceLeDiff, ↓reduceIte, if_true, if_false, List.getElem?_cons_zero, List.getElem?_cons_succ, List.set_cons_zero, List.set_cons_succ, List.length_cons, List.length_nil, mz_s1, mz_s2, mz_cl, true_and, and_true, false_and, and_false, List.append_nil, mk_b0, mk_b1, mk_b2, mk_bn, Value.int.injEq, Option.toList_some, Option.toList_none, List.cons_append, List.nil_append, Classical.not_not, Option.some.injEq, reduceCtorEq, ne_eq, not_true_eq_false, not_false_eq_true, false_implies, true_implies, mz_rl d_Multiplier_goThrough_24, mz_rl d_Multiplier_goThrough_26, mz_rl d_Multiplier_goThrough_28, mz_rl d_Multiplier_goThrough_31, mz_rl d_Multiplier_goThrough_33, mz_rl d_Multiplier_goThrough_35, mz_rl d_Multiplier_goThrough_37, mz_rl d_Multiplier_goThrough_41, mz_rl d_Multiplier_goThrough_44, j_Multiplier_goThrough_28, j_Multiplier_goThrough_44, nF_12, z1, nI_add]
      refine ih (i + 1) _ _ _ (by omega) hR (Fr_u hF (Or.inr (by omega)) _) (by rw [mz_u_n (by omega)]; exact h4) (Cd_set hC e1.2 (mulS_sg (hC _ e1.2).2.2 rt qy pr))
    · rw [if_neg h0] at hR ⊢
      subst hR
      refine mz_go [37] 12 ?_
      simp only [mz_r0, ev_0, ev_1, ev_2, ev_3, ev_4, ev_5, ev_6, ev_7, ev_8, ev_9, ev_10, ev_11, ev_12, ev_13, ev_14, ev_15, ev_16, ev_17, ev_18, ev_19, ev_20, ev_21, ev_22, ev_23, ev_24, ev_25, ev_26, ev_27, ev_28, ev_29, ev_30, ev_31, ev_32, ev_33, ev_34, ev_35, ev_36, ev_37, ev_38, ev_39, ev_40, ev_41, ev_42, ev_43, ev_44, ev_45, ev_46, ev_47, ev_48, ev_49, ev_50, ev_51, ev_52, ev_53, ev_54, ev_55, ev_56, ev_57, ev_58, ev_59, ev_60, ev_61, ev_62, ev_63, ev_64, ev_65, ev_66, ev_67, ev_68, ev_69, ev_70, ev_71, ev_72, ev_73, ev_74, ev_75, ev_76, ev_77, ev_78, ev_79, ev_80, ev_81, ev_82, ev_83, mk_lit, mk_fin, mk_cat, mk_fit, mk_nar, mk_fld, mk_cls, mk_ty, mk_isr, List.mem_cons, List.not_mem_nil, or_false, or_true, false_or, true_or, Nat.reduceEqDiff, Nat.reduceAdd, Nat.reduceSub, Nat.reduceLT, Nat.reduceLeDiff, ↓reduceIte, if_true, if_false, List.getElem?_cons_zero, List.getElem?_cons_succ, List.set_cons_zero, List.set_cons_succ, List.length_cons, List.length_nil, mz_s1, mz_s2, mz_cl, true_and, and_true, false_and, and_false, List.append_nil, mk_b0, mk_b1, mk_b2, mk_bn, Value.int.injEq, Option.toList_some, Option.toList_none, List.cons_append, List.nil_append, Classical.not_not, Option.some.injEq, reduceCtorEq, ne_eq, not_true_eq_false, not_false_eq_true, false_implies, true_implies, mz_rl d_Multiplier_goThrough_3, mz_rl d_Multiplier_goThrough_5, mz_rl d_Multiplier_goThrough_6, mz_rl d_Multiplier_goThrough_9, mz_rl d_Multiplier_goThrough_12, mz_rl d_Multiplier_goThrough_13, mz_rl d_Multiplier_goThrough_15, mz_rl d_Multiplier_goThrough_24, mz_rl d_Multiplier_goThrough_26, mz_rl d_Multiplier_goThrough_28, mz_rl d_Multiplier_goThrough_31, mz_rl d_Multiplier_goThrough_33, mz_rl d_Multiplier_goThrough_35, mz_rl d_Multiplier_goThrough_41, mz_rl d_Multiplier_goThrough_44, mz_rl d_Multiplier_goThrough_47, mz_rl d_Multiplier_goThrough_49, mz_rl d_Multiplier_goThrough_50, mz_rl d_Multiplier_goThrough_53, j_Multiplier_goThrough_9, j_Multiplier_goThrough_28, j_Multiplier_goThrough_44, nF_12, z0, h0]
      refine mz_callV (by simp only [d_Multiplier_goThrough_37, Nat.reduceAdd]) g_12_25 rfl (fun _ _ h => h) (c_FaultLight_stopAt G mk_P n F (x := nI (mulF (s (c i)) rt qy pr)) (y := nI i) k4) k4 rfl rfl (by decide) (Nat.le_of_ble_eq_true rfl) rfl ?_; intro v_ n_ f_ h_; obtain ⟨rfl, hn_, hf_⟩ := h_; replace hn_ := hn_.symm; replace hf_ := hf_.symm; subst hn_; subst hf_
      refine mz_go [] 12 ?_
      simp only [mz_r0, ev_0, ev_1, ev_2, ev_3, ev_4, ev_5, ev_6, ev_7, ev_8, ev_9, ev_10, ev_11, ev_12, ev_13, ev_14, ev_15, ev_16, ev_17, ev_18, ev_19, ev_20, ev_21, ev_22, ev_23, ev_24, ev_25, ev_26, ev_27, ev_28, ev_29, ev_30, ev_31, ev_32, ev_33, ev_34, ev_35, ev_36, ev_37, ev_38, ev_39, ev_40, ev_41, ev_42, ev_43, ev_44, ev_45, ev_46, ev_47, ev_48, ev_49, ev_50, ev_51, ev_52, ev_53, ev_54, ev_55, ev_56, ev_57, ev_58, ev_59, ev_60, ev_61, ev_62, ev_63, ev_64, ev_65, ev_66, ev_67, ev_68, ev_69, ev_70, ev_71, ev_72, ev_73, ev_74, ev_75, ev_76, ev_77, ev_78, ev_79, ev_80, ev_81, ev_82, ev_83, mk_lit, mk_fin, mk_cat, mk_fit, mk_nar, mk_fld, mk_cls, mk_ty, mk_isr, List.mem_cons, List.not_mem_nil, or_false, or_true, false_or, true_or, Nat.reduceEqDiff, Nat.reduceAdd, Nat.reduceSub, Nat.reduceLT, Nat.reduceLeDiff, ↓reduceIte, if_true, if_false, List.getElem?_cons_zero, List.getElem?_cons_succ, List.set_cons_zero, List.set_cons_succ, List.length_cons, List.length_nil, mz_s1, mz_s2, mz_cl, true_and, and_true, false_and, and_false, List.append_nil, mk_b0, mk_b1, mk_b2, mk_bn, Value.int.injEq, Option.toList_some, Option.toList_none, List.cons_append, List.nil_append, Classical.not_not, Option.some.injEq, reduceCtorEq, ne_eq, not_true_eq_false, not_false_eq_true, false_implies, true_implies, mz_rl d_Multiplier_goThrough_40, nF_12]
      exact ⟨Fr_u hF (Or.inl (by simp)) _, by unfold lightC; rw [if_neg h0]; exact mz_u_s _ _ _, Cd_u hC (by decide) _⟩
theorem c_Multiplier_goThrough (G : mz_G) (n : Nat) (f : mz_H) {d a sz rt qy pr K : Nat} {u w : Int32} {g : Nat → Option Nat} {c : Nat → Nat} {s : Nat → Nat → Nat} (hE : f 1000000000001 = mz_d) (hd1 : f d = .inr (4, [.ref a, .int (nI sz)])) (hd2 : f a = aQ 6 200 g) (hd4 : f 4 = .inr (5, [.int u, .int w])) (hd : d < 172) (ha : a < 172) (hs : sz ≤ 200) (hC : Cd f K s) (hP : Ps g sz c K) (hK : K ≤ 200) (h1 : facOk rt) (h2 : facOk qy) (h3 : facOk pr) :
    mz_Ct G mk_P y_Multiplier_goThrough b_Multiplier_goThrough 7 (some .int) (r_Multiplier_goThrough 0 0) [.ref d, .int (nI rt), .int (nI qy), .int (nI pr), .ref 4] n f (fun v n' F' => v = some (.int (nI (muF rt qy pr c sz 0 s).2.1)) ∧ n' = n ∧ Fr f F' [4] ∧ F' 4 = lightC (muF rt qy pr c sz 0 s).1 (muF rt qy pr c sz 0 s).2.1 ∧ Cd F' K (muF rt qy pr c sz 0 s).2.2) := by
  have h4d : d ≠ 4 := by rintro rfl; rw [hd1] at hd4; cases hd4
  have h4a : a ≠ 4 := by rintro rfl; rw [hd2] at hd4; cases hd4
  refine mk_Ct 12 false [some (.ref d), some (.int (nI rt)), some (.int (nI qy)), some (.int (nI pr)), some (.ref 4), none, none] (by decide) rfl (by decide) (Nat.le_of_ble_eq_true rfl) rfl ?_
  refine mz_go [3] 12 ?_
  simp only [mz_r0, ev_0, ev_1, ev_2, ev_3, ev_4, ev_5, ev_6, ev_7, ev_8, ev_9, ev_10, ev_11, ev_12, ev_13, ev_14, ev_15, ev_16, ev_17, ev_18, ev_19, ev_20, ev_21, ev_22, ev_23, ev_24, ev_25, ev_26, ev_27, ev_28, ev_29, ev_30, ev_31, ev_32, ev_33, ev_34, ev_35, ev_36, ev_37, ev_38, ev_39, ev_40, ev_41, ev_42, ev_43, ev_44, ev_45, ev_46, ev_47, ev_48, ev_49, ev_50, ev_51, ev_52, ev_53, ev_54, ev_55, ev_56, ev_57, ev_58, ev_59, ev_60, ev_61, ev_62, ev_63, ev_64, ev_65, ev_66, ev_67, ev_68, ev_69, ev_70, ev_71, ev_72, ev_73, ev_74, ev_75, ev_76, ev_77, ev_78, ev_79, ev_80, ev_81, ev_82, ev_83, mk_lit, mk_fin, mk_cat, mk_fit, mk_nar, mk_fld, mk_cls, mk_ty, mk_isr, List.mem_cons, List.not_mem_nil, or_false, or_true, false_or, true_or, Nat.reduceEqDiff, Nat.reduceAdd, Nat.reduceSub, Nat.reduceLT, Nat.reduceLeDiff, ↓reduceIte, if_true, if_false, List.getElem?_cons_zero, List.getElem?_cons_succ, List.set_cons_zero, List.set_cons_succ, List.length_cons, List.length_nil, mz_s1, mz_s2, mz_cl, true_and, and_true, false_and, and_false, List.append_nil, mk_b0, mk_b1, mk_b2, mk_bn, Value.int.injEq, Option.toList_some, Option.toList_none, List.cons_append, List.nil_append, Classical.not_not, Option.some.injEq, reduceCtorEq, ne_eq, not_true_eq_false, not_false_eq_true, false_implies, true_implies, mz_rl d_Multiplier_goThrough_0, mz_rl d_Multiplier_goThrough_1, nF_12]
  exact l_Multiplier_goThrough G n f hE hd1 hd2 hd4 hd ha h4d h4a hs hP hK h1 h2 h3 _ sz 0 none f s (by omega) rfl Fr_rf rfl hC
