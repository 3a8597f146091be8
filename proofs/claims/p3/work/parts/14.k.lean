/-! match in the reference -/
def cntB (T : Nat → Bool) : Nat → Nat
  | 0 => 0
  | k + 1 => cntB T k + (if T k = true then 1 else 0)
theorem cntB_le (T : Nat → Bool) : ∀ k, cntB T k ≤ k := by
  intro k
  induction k with
  | zero => exact Nat.le_refl _
  | succ k ih =>
    show cntB T k + _ ≤ _
    by_cases h : T k = true
    · rw [if_pos h]; omega
    · rw [if_neg h]; omega
theorem cntB_mono {T U : Nat → Bool} : ∀ k, (∀ i, i < k → T i = true → U i = true) → cntB T k ≤ cntB U k := by
  intro k
  induction k with
  | zero => intro _; exact Nat.le_refl _
  | succ k ih =>
    intro h
    have h1 := ih (fun i hi => h i (by omega))
    show cntB T k + _ ≤ cntB U k + _
    by_cases e : T k = true
    · rw [if_pos e, if_pos (h k (by omega) e)]; omega
    · rw [if_neg e]; omega
theorem cntB_ext {T U : Nat → Bool} : ∀ k, (∀ i, i < k → T i = U i) → cntB T k = cntB U k := by
  intro k
  induction k with
  | zero => intro _; rfl
  | succ k ih =>
    intro h
    show cntB T k + _ = cntB U k + _
    rw [ih (fun i hi => h i (by omega)), h k (by omega)]
def tkPost (f : mz_H) (K n n0 N0 : Nat) (g s : Nat → Int32) (v : Option Value) (n' : Nat) (f' : mz_H) : Prop := n' = n ∧ ∃ N s' T, v = some (.int (nI N)) ∧ f' = mz_u f 162 (aS 200 s') ∧ N = n0 + cntB T N0 ∧ (∀ j, j < N → vc K (s' j)) ∧ (∀ j, j < n0 → ∃ j', j' < N ∧ s' j' = s j) ∧ ∀ i, i < N0 → T i = true → ∃ j, j < N ∧ s' j = g i
theorem l_Model_take (G : mz_G) (n : Nat) (f : mz_H) {K ln d o fr to n0 : Nat} {t p br u a : Int32} {S W : Nat → Nat} {s g : Nat → Int32} (e158 : f 158 = mo t K ln p br u a) (h : MP f K ln S W) (e160 : f 160 = aS 1600 g) (hd : d < 8) (ho : o < 8) (hf : fr ≤ to) (ht : to < 16) (hn : n0 + S d ≤ 200) :
    ∀ m i (T : Nat → Bool) s1, i + m = S d → (∀ j, j < n0 + cntB T i → vc K (s1 j)) → (∀ j, j < n0 → ∃ j', j' < n0 + cntB T i ∧ s1 j' = s j) → (∀ k, k < i → T k = true → ∃ j, j < n0 + cntB T i ∧ s1 j = g (200 * d + k)) → mz_X G mk_P 11 false b_Model_take 8 (some .int) (r_Model_take 0 0) (tkPost f K n n0 (S d) (fun i => g (200 * d + i)) s) (fun _ _ _ => False) 7 [some (.ref 158), some (.int (nI d)), some (.int (nI o)), some (.int (nI fr)), some (.int (nI to)), some (.int (nI n0)), some (.int (nI (n0 + cntB T i))), some (.int (nI i))] [] 0 0 n (mz_u f 162 (aS 200 s1)) := by
  have hK := h.1.2.1
  have hsz := MP_sz h hd
  have e161 := h.2.1.1
  intro m
  induction m with
  | zero =>
    intro i T s1 hi h1 h2 h3
    have : i = S d := by omega
    subst this
    refine mz_go [7] 30 ?_
    simp only [mz_run, ev_0, ev_1, ev_2, ev_3, ev_4, ev_5, ev_6, ev_7, ev_8, ev_9, ev_10, ev_11, ev_12, ev_13, ev_14, ev_15, ev_16, ev_17, ev_18, ev_19, ev_20, ev_21, ev_22, ev_23, ev_24, ev_25, ev_26, ev_27, ev_28, ev_29, ev_30, ev_31, ev_32, ev_33, ev_34, ev_35, ev_36, ev_37, ev_38, ev_39, ev_40, ev_41, ev_42, ev_43, ev_44, ev_45, ev_46, ev_47, ev_48, ev_49, ev_50, ev_51, ev_52, ev_53, ev_54, ev_55, ev_56, ev_57, ev_58, ev_59, ev_60, ev_61, ev_62, ev_63, ev_64, ev_65, ev_66, ev_67, ev_68, ev_69, ev_70, ev_71, ev_72, ev_73, ev_74, ev_75, ev_76, ev_77, ev_78, ev_79, ev_80, ev_81, ev_82, ev_83, mk_lit, mk_fin, mk_cat, mk_fit, mk_nar, mk_fld, mk_cls, mk_ty, mk_isr, List.mem_cons, List.not_mem_nil, or_false, or_true, false_or, true_or, Nat.reduceEqDiff, Nat.reduceAdd, Nat.reduceSub, Nat.reduceLT, Nat.reduceLeDiff, reduceIte, if_true, if_false, List.getElem?_cons_zero, List.getElem?_cons_succ, List.set_cons_zero, List.set_cons_succ, List.length_cons, List.length_nil, mz_s1, mz_s2, mz_cl, true_and, and_true, false_and, and_false, List.append_nil, mk_b0, mk_b1, mk_b2, mk_bn, Value.int.injEq, Option.toList_some, Option.toList_none, List.cons_append, List.nil_append, Classical.not_not, Option.some.injEq, reduceCtorEq, ne_eq, not_true_eq_false, not_false_eq_true, false_implies, true_implies, d_Model_take, j_Model_take, nF_11, mz_u_n (show 158 ≠ 162 by decide), mz_u_n (show 161 ≠ 162 by decide), e158, e161, mo, vp_in_nI (show d < 8 by omega) (show 8 < 2 ^ 31 by decide), nI_clamp (show d < 2 ^ 31 by omega), nI_leI (show S d < 2 ^ 31 by omega) (show S d < 2 ^ 31 by omega), Nat.le_refl]
    exact ⟨rfl, _, s1, T, rfl, rfl, rfl, h1, h2, h3⟩
  | succ m ih =>
    intro i T s1 hi h1 h2 h3
    have hcl := cntB_le T i
    have h' := MP_162 h s1
    have e158' : (mz_u f 162 (aS 200 s1)) 158 = mo t K ln p br u a := (mz_u_n (by decide)).trans e158
    have e160' : (mz_u f 162 (aS 200 s1)) 160 = aS 1600 g := (mz_u_n (by decide)).trans e160
    obtain ⟨g', e160'', hg'⟩ := h.2.1.2.2
    have egg : g' = g := by rw [e160] at e160''; injection e160'' with q; injection q with q1 q2; injection q2 with q3 q4; injection q4 with q5; exact q5.symm
    subst egg
    obtain ⟨c, hc, ec⟩ := hg' d i hd (by omega)
    refine mz_go [24] 30 ?_
    simp only [mz_run, ev_0, ev_1, ev_2, ev_3, ev_4, ev_5, ev_6, ev_7, ev_8, ev_9, ev_10, ev_11, ev_12, ev_13, ev_14, ev_15, ev_16, ev_17, ev_18, ev_19, ev_20, ev_21, ev_22, ev_23, ev_24, ev_25, ev_26, ev_27, ev_28, ev_29, ev_30, ev_31, ev_32, ev_33, ev_34, ev_35, ev_36, ev_37, ev_38, ev_39, ev_40, ev_41, ev_42, ev_43, ev_44, ev_45, ev_46, ev_47, ev_48, ev_49, ev_50, ev_51, ev_52, ev_53, ev_54, ev_55, ev_56, ev_57, ev_58, ev_59, ev_60, ev_61, ev_62, ev_63, ev_64, ev_65, ev_66, ev_67, ev_68, ev_69, ev_70, ev_71, ev_72, ev_73, ev_74, ev_75, ev_76, ev_77, ev_78, ev_79, ev_80, ev_81, ev_82, ev_83, mk_lit, mk_fin, mk_cat, mk_fit, mk_nar, mk_fld, mk_cls, mk_ty, mk_isr, List.mem_cons, List.not_mem_nil, or_false, or_true, false_or, true_or, Nat.reduceEqDiff, Nat.reduceAdd, Nat.reduceSub, Nat.reduceLT, Nat.reduceLeDiff, reduceIte, if_true, if_false, List.getElem?_cons_zero, List.getElem?_cons_succ, List.set_cons_zero, List.set_cons_succ, List.length_cons, List.length_nil, mz_s1, mz_s2, mz_cl, true_and, and_true, false_and, and_false, List.append_nil, mk_b0, mk_b1, mk_b2, mk_bn, Value.int.injEq, Option.toList_some, Option.toList_none, List.cons_append, List.nil_append, Classical.not_not, Option.some.injEq, reduceCtorEq, ne_eq, not_true_eq_false, not_false_eq_true, false_implies, true_implies, d_Model_take, j_Model_take, nF_11, mz_u_n (show 158 ≠ 162 by decide), mz_u_n (show 161 ≠ 162 by decide), e158, e161, mo, vp_in_nI (show d < 8 by omega) (show 8 < 2 ^ 31 by decide), nI_clamp (show d < 2 ^ 31 by omega), nI_leI (show S d < 2 ^ 31 by omega) (show i < 2 ^ 31 by omega), show ¬ S d ≤ i by omega]
    refine mz_callV (by simp only [d_Model_take, Nat.reduceAdd]) g_11_98 rfl (fun _ _ h => h) (c_Model_cardAtG G n _ e158' e160' hd (show i < 200 by omega)) e158' rfl rfl (by decide) (Nat.le_of_ble_eq_true rfl) rfl ?_; intro v_ n_ f_ h_; obtain ⟨rfl, hn_, hf_⟩ := h_; replace hn_ := hn_.symm; replace hf_ := hf_.symm; subst hn_; subst hf_
    rw [ec]
    refine mz_go [30] 30 ?_
    simp only [mz_run, ev_0, ev_1, ev_2, ev_3, ev_4, ev_5, ev_6, ev_7, ev_8, ev_9, ev_10, ev_11, ev_12, ev_13, ev_14, ev_15, ev_16, ev_17, ev_18, ev_19, ev_20, ev_21, ev_22, ev_23, ev_24, ev_25, ev_26, ev_27, ev_28, ev_29, ev_30, ev_31, ev_32, ev_33, ev_34, ev_35, ev_36, ev_37, ev_38, ev_39, ev_40, ev_41, ev_42, ev_43, ev_44, ev_45, ev_46, ev_47, ev_48, ev_49, ev_50, ev_51, ev_52, ev_53, ev_54, ev_55, ev_56, ev_57, ev_58, ev_59, ev_60, ev_61, ev_62, ev_63, ev_64, ev_65, ev_66, ev_67, ev_68, ev_69, ev_70, ev_71, ev_72, ev_73, ev_74, ev_75, ev_76, ev_77, ev_78, ev_79, ev_80, ev_81, ev_82, ev_83, mk_lit, mk_fin, mk_cat, mk_fit, mk_nar, mk_fld, mk_cls, mk_ty, mk_isr, List.mem_cons, List.not_mem_nil, or_false, or_true, false_or, true_or, Nat.reduceEqDiff, Nat.reduceAdd, Nat.reduceSub, Nat.reduceLT, Nat.reduceLeDiff, reduceIte, if_true, if_false, List.getElem?_cons_zero, List.getElem?_cons_succ, List.set_cons_zero, List.set_cons_succ, List.length_cons, List.length_nil, mz_s1, mz_s2, mz_cl, true_and, and_true, false_and, and_false, List.append_nil, mk_b0, mk_b1, mk_b2, mk_bn, Value.int.injEq, Option.toList_some, Option.toList_none, List.cons_append, List.nil_append, Classical.not_not, Option.some.injEq, reduceCtorEq, ne_eq, not_true_eq_false, not_false_eq_true, false_implies, true_implies, d_Model_take, j_Model_take, nF_11]
    refine mz_callV (by simp only [d_Model_take, Nat.reduceAdd]) g_11_136 rfl (fun _ _ h => h) (c_Model_hasKey G n _ h' ho (show c < 200 by omega) hf ht) e158' rfl rfl (by decide) (Nat.le_of_ble_eq_true rfl) rfl ?_; intro v_ n_ f_ h_; obtain ⟨⟨r, rfl⟩, hn_, hf_⟩ := h_; replace hn_ := hn_.symm; replace hf_ := hf_.symm; subst hn_; subst hf_
    -- T is told anew at i
    have hT : ∀ b : Bool, cntB (va_up T i b) i = cntB T i := fun b => cntB_ext i (fun j hj => va_up_n (by omega))
    cases r
    · have eT : cntB (va_up T i false) (i + 1) = cntB T i := by show cntB (va_up T i false) i + _ = _; rw [hT, va_up_s]; rfl
      refine mz_go [7] 30 ?_
      simp only [mz_run, ev_0, ev_1, ev_2, ev_3, ev_4, ev_5, ev_6, ev_7, ev_8, ev_9, ev_10, ev_11, ev_12, ev_13, ev_14, ev_15, ev_16, ev_17, ev_18, ev_19, ev_20, ev_21, ev_22, ev_23, ev_24, ev_25, ev_26, ev_27, ev_28, ev_29, ev_30, ev_31, ev_32, ev_33, ev_34, ev_35, ev_36, ev_37, ev_38, ev_39, ev_40, ev_41, ev_42, ev_43, ev_44, ev_45, ev_46, ev_47, ev_48, ev_49, ev_50, ev_51, ev_52, ev_53, ev_54, ev_55, ev_56, ev_57, ev_58, ev_59, ev_60, ev_61, ev_62, ev_63, ev_64, ev_65, ev_66, ev_67, ev_68, ev_69, ev_70, ev_71, ev_72, ev_73, ev_74, ev_75, ev_76, ev_77, ev_78, ev_79, ev_80, ev_81, ev_82, ev_83, mk_lit, mk_fin, mk_cat, mk_fit, mk_nar, mk_fld, mk_cls, mk_ty, mk_isr, List.mem_cons, List.not_mem_nil, or_false, or_true, false_or, true_or, Nat.reduceEqDiff, Nat.reduceAdd, Nat.reduceSub, Nat.reduceLT, Nat.reduceLeDiff, reduceIte, if_true, if_false, List.getElem?_cons_zero, List.getElem?_cons_succ, List.set_cons_zero, List.set_cons_succ, List.length_cons, List.length_nil, mz_s1, mz_s2, mz_cl, true_and, and_true, false_and, and_false, List.append_nil, mk_b0, mk_b1, mk_b2, mk_bn, Value.int.injEq, Option.toList_some, Option.toList_none, List.cons_append, List.nil_append, Classical.not_not, Option.some.injEq, reduceCtorEq, ne_eq, not_true_eq_false, not_false_eq_true, false_implies, true_implies, d_Model_take, j_Model_take, nF_11, show (false = true) = False from by simp, nI_add]
      have w := ih (i + 1) (va_up T i false) s1 (by omega) (by rw [eT]; exact h1) (by rw [eT]; exact h2) (fun k hk hTk => by
        rw [eT]
        by_cases e : k = i
        · subst e; rw [va_up_s] at hTk; cases hTk
        · rw [va_up_n e] at hTk; exact h3 k (by omega) hTk)
      rw [eT] at w
      exact w
    · have eT : cntB (va_up T i true) (i + 1) = cntB T i + 1 := by show cntB (va_up T i true) i + _ = _; rw [hT, va_up_s]; rfl
      refine mz_go [47] 30 ?_
      simp only [mz_run, ev_0, ev_1, ev_2, ev_3, ev_4, ev_5, ev_6, ev_7, ev_8, ev_9, ev_10, ev_11, ev_12, ev_13, ev_14, ev_15, ev_16, ev_17, ev_18, ev_19, ev_20, ev_21, ev_22, ev_23, ev_24, ev_25, ev_26, ev_27, ev_28, ev_29, ev_30, ev_31, ev_32, ev_33, ev_34, ev_35, ev_36, ev_37, ev_38, ev_39, ev_40, ev_41, ev_42, ev_43, ev_44, ev_45, ev_46, ev_47, ev_48, ev_49, ev_50, ev_51, ev_52, ev_53, ev_54, ev_55, ev_56, ev_57, ev_58, ev_59, ev_60, ev_61, ev_62, ev_63, ev_64, ev_65, ev_66, ev_67, ev_68, ev_69, ev_70, ev_71, ev_72, ev_73, ev_74, ev_75, ev_76, ev_77, ev_78, ev_79, ev_80, ev_81, ev_82, ev_83, mk_lit, mk_fin, mk_cat, mk_fit, mk_nar, mk_fld, mk_cls, mk_ty, mk_isr, List.mem_cons, List.not_mem_nil, or_false, or_true, false_or, true_or, Nat.reduceEqDiff, Nat.reduceAdd, Nat.reduceSub, Nat.reduceLT, Nat.reduceLeDiff, reduceIte, if_true, if_false, List.getElem?_cons_zero, List.getElem?_cons_succ, List.set_cons_zero, List.set_cons_succ, List.length_cons, List.length_nil, mz_s1, mz_s2, mz_cl, true_and, and_true, false_and, and_false, List.append_nil, mk_b0, mk_b1, mk_b2, mk_bn, Value.int.injEq, Option.toList_some, Option.toList_none, List.cons_append, List.nil_append, Classical.not_not, Option.some.injEq, reduceCtorEq, ne_eq, not_true_eq_false, not_false_eq_true, false_implies, true_implies, d_Model_take, j_Model_take, nF_11, show (true = true) = True from by simp, mz_u_n (show 158 ≠ 162 by decide), e158, mo]
      refine mz_callV (by simp only [d_Model_take, Nat.reduceAdd]) g_11_98 rfl (fun _ _ h => h) (c_Model_cardAtG G n _ e158' e160' hd (show i < 200 by omega)) e158' rfl rfl (by decide) (Nat.le_of_ble_eq_true rfl) rfl ?_; intro v_ n_ f_ h_; obtain ⟨rfl, hn_, hf_⟩ := h_; replace hn_ := hn_.symm; replace hf_ := hf_.symm; subst hn_; subst hf_
      rw [ec]
      refine mz_go [53] 30 ?_
      simp only [mz_run, ev_0, ev_1, ev_2, ev_3, ev_4, ev_5, ev_6, ev_7, ev_8, ev_9, ev_10, ev_11, ev_12, ev_13, ev_14, ev_15, ev_16, ev_17, ev_18, ev_19, ev_20, ev_21, ev_22, ev_23, ev_24, ev_25, ev_26, ev_27, ev_28, ev_29, ev_30, ev_31, ev_32, ev_33, ev_34, ev_35, ev_36, ev_37, ev_38, ev_39, ev_40, ev_41, ev_42, ev_43, ev_44, ev_45, ev_46, ev_47, ev_48, ev_49, ev_50, ev_51, ev_52, ev_53, ev_54, ev_55, ev_56, ev_57, ev_58, ev_59, ev_60, ev_61, ev_62, ev_63, ev_64, ev_65, ev_66, ev_67, ev_68, ev_69, ev_70, ev_71, ev_72, ev_73, ev_74, ev_75, ev_76, ev_77, ev_78, ev_79, ev_80, ev_81, ev_82, ev_83, mk_lit, mk_fin, mk_cat, mk_fit, mk_nar, mk_fld, mk_cls, mk_ty, mk_isr, List.mem_cons, List.not_mem_nil, or_false, or_true, false_or, true_or, Nat.reduceEqDiff, Nat.reduceAdd, Nat.reduceSub, Nat.reduceLT, Nat.reduceLeDiff, reduceIte, if_true, if_false, List.getElem?_cons_zero, List.getElem?_cons_succ, List.set_cons_zero, List.set_cons_succ, List.length_cons, List.length_nil, mz_s1, mz_s2, mz_cl, true_and, and_true, false_and, and_false, List.append_nil, mk_b0, mk_b1, mk_b2, mk_bn, Value.int.injEq, Option.toList_some, Option.toList_none, List.cons_append, List.nil_append, Classical.not_not, Option.some.injEq, reduceCtorEq, ne_eq, not_true_eq_false, not_false_eq_true, false_implies, true_implies, d_Model_take, j_Model_take, nF_11]
      refine mz_callV (by simp only [d_Model_take, Nat.reduceAdd]) g_11_129 rfl (fun _ _ h => h) (c_Model_putIn G n _ h' (mz_u_s _ _ _) (show n0 + cntB T i < 200 by omega) h1 hc hf ht) e158' rfl rfl (by decide) (Nat.le_of_ble_eq_true rfl) rfl ?_; rintro v_ n_ f_ ⟨rfl, hn_, s', hf_, q1, q2, q3⟩
      replace hn_ := hn_.symm
      subst hn_
      subst hf_
      refine mz_go [7] 30 ?_
      simp only [mz_run, ev_0, ev_1, ev_2, ev_3, ev_4, ev_5, ev_6, ev_7, ev_8, ev_9, ev_10, ev_11, ev_12, ev_13, ev_14, ev_15, ev_16, ev_17, ev_18, ev_19, ev_20, ev_21, ev_22, ev_23, ev_24, ev_25, ev_26, ev_27, ev_28, ev_29, ev_30, ev_31, ev_32, ev_33, ev_34, ev_35, ev_36, ev_37, ev_38, ev_39, ev_40, ev_41, ev_42, ev_43, ev_44, ev_45, ev_46, ev_47, ev_48, ev_49, ev_50, ev_51, ev_52, ev_53, ev_54, ev_55, ev_56, ev_57, ev_58, ev_59, ev_60, ev_61, ev_62, ev_63, ev_64, ev_65, ev_66, ev_67, ev_68, ev_69, ev_70, ev_71, ev_72, ev_73, ev_74, ev_75, ev_76, ev_77, ev_78, ev_79, ev_80, ev_81, ev_82, ev_83, mk_lit, mk_fin, mk_cat, mk_fit, mk_nar, mk_fld, mk_cls, mk_ty, mk_isr, List.mem_cons, List.not_mem_nil, or_false, or_true, false_or, true_or, Nat.reduceEqDiff, Nat.reduceAdd, Nat.reduceSub, Nat.reduceLT, Nat.reduceLeDiff, reduceIte, if_true, if_false, List.getElem?_cons_zero, List.getElem?_cons_succ, List.set_cons_zero, List.set_cons_succ, List.length_cons, List.length_nil, mz_s1, mz_s2, mz_cl, true_and, and_true, false_and, and_false, List.append_nil, mk_b0, mk_b1, mk_b2, mk_bn, Value.int.injEq, Option.toList_some, Option.toList_none, List.cons_append, List.nil_append, Classical.not_not, Option.some.injEq, reduceCtorEq, ne_eq, not_true_eq_false, not_false_eq_true, false_implies, true_implies, d_Model_take, j_Model_take, nF_11, nI_add, mz_uu]
      have w := ih (i + 1) (va_up T i true) s' (by omega) (by rw [eT]; exact fun j hj => q1 j (by omega)) (by
        rw [eT]
        intro j hj
        obtain ⟨j1, z1, z2⟩ := h2 j hj
        obtain ⟨j2, z3, z4⟩ := q2 j1 z1
        exact ⟨j2, by omega, z4.trans z2⟩) (fun k hk hTk => by
        rw [eT]
        by_cases e : k = i
        · subst e
          obtain ⟨j2, z3, z4⟩ := q3
          exact ⟨j2, by omega, z4.trans ec.symm⟩
        · rw [va_up_n e] at hTk
          obtain ⟨j1, z1, z2⟩ := h3 k (by omega) hTk
          obtain ⟨j2, z3, z4⟩ := q2 j1 z1
          exact ⟨j2, by omega, z4.trans z2⟩)
      rw [eT] at w
      exact w
theorem c_Model_take (G : mz_G) (n : Nat) (f : mz_H) {K ln d o fr to n0 : Nat} {S W : Nat → Nat} {s g : Nat → Int32} (h : MP f K ln S W) (e160 : f 160 = aS 1600 g) (e162 : f 162 = aS 200 s) (hd : d < 8) (ho : o < 8) (hf : fr ≤ to) (ht : to < 16) (hn : n0 + S d ≤ 200) (hv : ∀ j, j < n0 → vc K (s j)) : mz_Ct G mk_P y_Model_take b_Model_take 8 (some .int) (r_Model_take 0 0) [.ref 158, .int (nI d), .int (nI o), .int (nI fr), .int (nI to), .int (nI n0)] n f (tkPost f K n n0 (S d) (fun i => g (200 * d + i)) s) := by
  obtain ⟨t, p, br, u, a, e158⟩ := h.1.1
  refine mk_Ct 11 false [some (.ref 158), some (.int (nI d)), some (.int (nI o)), some (.int (nI fr)), some (.int (nI to)), some (.int (nI n0)), none, none] (by decide) rfl (by decide) (Nat.le_of_ble_eq_true rfl) rfl ?_
  refine mz_go [7] 30 ?_
  simp only [mz_run, ev_0, ev_1, ev_2, ev_3, ev_4, ev_5, ev_6, ev_7, ev_8, ev_9, ev_10, ev_11, ev_12, ev_13, ev_14, ev_15, ev_16, ev_17, ev_18, ev_19, ev_20, ev_21, ev_22, ev_23, ev_24, ev_25, ev_26, ev_27, ev_28, ev_29, ev_30, ev_31, ev_32, ev_33, ev_34, ev_35, ev_36, ev_37, ev_38, ev_39, ev_40, ev_41, ev_42, ev_43, ev_44, ev_45, ev_46, ev_47, ev_48, ev_49, ev_50, ev_51, ev_52, ev_53, ev_54, ev_55, ev_56, ev_57, ev_58, ev_59, ev_60, ev_61, ev_62, ev_63, ev_64, ev_65, ev_66, ev_67, ev_68, ev_69, ev_70, ev_71, ev_72, ev_73, ev_74, ev_75, ev_76, ev_77, ev_78, ev_79, ev_80, ev_81, ev_82, ev_83, mk_lit, mk_fin, mk_cat, mk_fit, mk_nar, mk_fld, mk_cls, mk_ty, mk_isr, List.mem_cons, List.not_mem_nil, or_false, or_true, false_or, true_or, Nat.reduceEqDiff, Nat.reduceAdd, Nat.reduceSub, Nat.reduceLT, Nat.reduceLeDiff, reduceIte, if_true, if_false, List.getElem?_cons_zero, List.getElem?_cons_succ, List.set_cons_zero, List.set_cons_succ, List.length_cons, List.length_nil, mz_s1, mz_s2, mz_cl, true_and, and_true, false_and, and_false, List.append_nil, mk_b0, mk_b1, mk_b2, mk_bn, Value.int.injEq, Option.toList_some, Option.toList_none, List.cons_append, List.nil_append, Classical.not_not, Option.some.injEq, reduceCtorEq, ne_eq, not_true_eq_false, not_false_eq_true, false_implies, true_implies, d_Model_take, j_Model_take, nF_11]
  have := l_Model_take G n f (s := s) e158 h e160 hd ho hf ht hn (S d) 0 (fun _ => false) s (by omega) hv (fun j hj => ⟨j, hj, rfl⟩) (fun k hk => absurd hk (by omega))
  rw [mz_ui e162] at this
  exact this
/-- is x among the first n of s -/
def goR (s : Nat → Int32) (x : Int32) : Nat → Bool
  | 0 => false
  | k + 1 => goR s x k || decide (s k = x)
theorem goR_t {s : Nat → Int32} {x : Int32} : ∀ n j, j < n → s j = x → goR s x n = true := by
  intro n
  induction n with
  | zero => intro j hj; omega
  | succ n ih =>
    intro j hj e
    by_cases q : j = n
    · subst q; simp [goR, e]
    · simp [goR, ih j (by omega) e]
theorem l_Model_leave1 (G : mz_G) (n : Nat) (f : mz_H) {K ln d N i left : Nat} {t p br u a : Int32} {s g : Nat → Int32} {w3 w4 : Option Value} (post : Option Value → Nat → mz_H → Prop) (e158 : f 158 = mo t K ln p br u a) (e160 : f 160 = aS 1600 g) (e162 : f 162 = aS 200 s) (hd : d < 8) (hi : i < 200) (hN : N ≤ 200)
    (hend : mz_X G mk_P 11 false b_Model_leave 9 none (r_Model_leave 0 0) post (fun _ _ _ => False) 64 [some (.ref 158), some (.int (nI d)), some (.int (nI N)), w3, w4, some (.int (nI left)), some (.int (nI i)), some (.int (mk_b (goR s (g (200 * d + i)) N = true))), some (.int (nI N))] [] 0 0 n f) :
    ∀ m k, k + m = N → mz_X G mk_P 11 false b_Model_leave 9 none (r_Model_leave 0 0) post (fun _ _ _ => False) 23 [some (.ref 158), some (.int (nI d)), some (.int (nI N)), w3, w4, some (.int (nI left)), some (.int (nI i)), some (.int (mk_b (goR s (g (200 * d + i)) k = true))), some (.int (nI k))] [] 0 0 n f := by
  intro m
  induction m with
  | zero =>
    intro k hk
    have : k = N := by omega
    subst this
    refine mz_go [23, 64] 30 ?_
    simp only [mz_run, ev_0, ev_1, ev_2, ev_3, ev_4, ev_5, ev_6, ev_7, ev_8, ev_9, ev_10, ev_11, ev_12, ev_13, ev_14, ev_15, ev_16, ev_17, ev_18, ev_19, ev_20, ev_21, ev_22, ev_23, ev_24, ev_25, ev_26, ev_27, ev_28, ev_29, ev_30, ev_31, ev_32, ev_33, ev_34, ev_35, ev_36, ev_37, ev_38, ev_39, ev_40, ev_41, ev_42, ev_43, ev_44, ev_45, ev_46, ev_47, ev_48, ev_49, ev_50, ev_51, ev_52, ev_53, ev_54, ev_55, ev_56, ev_57, ev_58, ev_59, ev_60, ev_61, ev_62, ev_63, ev_64, ev_65, ev_66, ev_67, ev_68, ev_69, ev_70, ev_71, ev_72, ev_73, ev_74, ev_75, ev_76, ev_77, ev_78, ev_79, ev_80, ev_81, ev_82, ev_83, mk_lit, mk_fin, mk_cat, mk_fit, mk_nar, mk_fld, mk_cls, mk_ty, mk_isr, List.mem_cons, List.not_mem_nil, or_false, or_true, false_or, true_or, Nat.reduceEqDiff, Nat.reduceAdd, Nat.reduceSub, Nat.reduceLT, Nat.reduceLeDiff, reduceIte, if_true, if_false, List.getElem?_cons_zero, List.getElem?_cons_succ, List.set_cons_zero, List.set_cons_succ, List.length_cons, List.length_nil, mz_s1, mz_s2, mz_cl, true_and, and_true, false_and, and_false, List.append_nil, mk_b0, mk_b1, mk_b2, mk_bn, Value.int.injEq, Option.toList_some, Option.toList_none, List.cons_append, List.nil_append, Classical.not_not, Option.some.injEq, reduceCtorEq, ne_eq, not_true_eq_false, not_false_eq_true, false_implies, true_implies, d_Model_leave, j_Model_leave, nF_11, nI_leI (show k < 2 ^ 31 by omega) (show k < 2 ^ 31 by omega), Nat.le_refl]
    exact hend
  | succ m ih =>
    intro k hk
    have ihk := ih (k + 1) (by omega)
    by_cases h1 : goR s (g (200 * d + i)) k = true
    · rw [mk_b_t (show goR s (g (200 * d + i)) (k + 1) = true by simp [goR, h1])] at ihk
      refine mz_go [23] 30 ?_
      simp only [mz_run, ev_0, ev_1, ev_2, ev_3, ev_4, ev_5, ev_6, ev_7, ev_8, ev_9, ev_10, ev_11, ev_12, ev_13, ev_14, ev_15, ev_16, ev_17, ev_18, ev_19, ev_20, ev_21, ev_22, ev_23, ev_24, ev_25, ev_26, ev_27, ev_28, ev_29, ev_30, ev_31, ev_32, ev_33, ev_34, ev_35, ev_36, ev_37, ev_38, ev_39, ev_40, ev_41, ev_42, ev_43, ev_44, ev_45, ev_46, ev_47, ev_48, ev_49, ev_50, ev_51, ev_52, ev_53, ev_54, ev_55, ev_56, ev_57, ev_58, ev_59, ev_60, ev_61, ev_62, ev_63, ev_64, ev_65, ev_66, ev_67, ev_68, ev_69, ev_70, ev_71, ev_72, ev_73, ev_74, ev_75, ev_76, ev_77, ev_78, ev_79, ev_80, ev_81, ev_82, ev_83, mk_lit, mk_fin, mk_cat, mk_fit, mk_nar, mk_fld, mk_cls, mk_ty, mk_isr, List.mem_cons, List.not_mem_nil, or_false, or_true, false_or, true_or, Nat.reduceEqDiff, Nat.reduceAdd, Nat.reduceSub, Nat.reduceLT, Nat.reduceLeDiff, reduceIte, if_true, if_false, List.getElem?_cons_zero, List.getElem?_cons_succ, List.set_cons_zero, List.set_cons_succ, List.length_cons, List.length_nil, mz_s1, mz_s2, mz_cl, true_and, and_true, false_and, and_false, List.append_nil, mk_b0, mk_b1, mk_b2, mk_bn, Value.int.injEq, Option.toList_some, Option.toList_none, List.cons_append, List.nil_append, Classical.not_not, Option.some.injEq, reduceCtorEq, ne_eq, not_true_eq_false, not_false_eq_true, false_implies, true_implies, d_Model_leave, j_Model_leave, nF_11, nI_leI (show N < 2 ^ 31 by omega) (show k < 2 ^ 31 by omega), show ¬ N ≤ k by omega, eq_true h1, nI_add]
      exact ihk
    · refine mz_go [45] 30 ?_
      simp only [mz_run, ev_0, ev_1, ev_2, ev_3, ev_4, ev_5, ev_6, ev_7, ev_8, ev_9, ev_10, ev_11, ev_12, ev_13, ev_14, ev_15, ev_16, ev_17, ev_18, ev_19, ev_20, ev_21, ev_22, ev_23, ev_24, ev_25, ev_26, ev_27, ev_28, ev_29, ev_30, ev_31, ev_32, ev_33, ev_34, ev_35, ev_36, ev_37, ev_38, ev_39, ev_40, ev_41, ev_42, ev_43, ev_44, ev_45, ev_46, ev_47, ev_48, ev_49, ev_50, ev_51, ev_52, ev_53, ev_54, ev_55, ev_56, ev_57, ev_58, ev_59, ev_60, ev_61, ev_62, ev_63, ev_64, ev_65, ev_66, ev_67, ev_68, ev_69, ev_70, ev_71, ev_72, ev_73, ev_74, ev_75, ev_76, ev_77, ev_78, ev_79, ev_80, ev_81, ev_82, ev_83, mk_lit, mk_fin, mk_cat, mk_fit, mk_nar, mk_fld, mk_cls, mk_ty, mk_isr, List.mem_cons, List.not_mem_nil, or_false, or_true, false_or, true_or, Nat.reduceEqDiff, Nat.reduceAdd, Nat.reduceSub, Nat.reduceLT, Nat.reduceLeDiff, reduceIte, if_true, if_false, List.getElem?_cons_zero, List.getElem?_cons_succ, List.set_cons_zero, List.set_cons_succ, List.length_cons, List.length_nil, mz_s1, mz_s2, mz_cl, true_and, and_true, false_and, and_false, List.append_nil, mk_b0, mk_b1, mk_b2, mk_bn, Value.int.injEq, Option.toList_some, Option.toList_none, List.cons_append, List.nil_append, Classical.not_not, Option.some.injEq, reduceCtorEq, ne_eq, not_true_eq_false, not_false_eq_true, false_implies, true_implies, d_Model_leave, j_Model_leave, nF_11, nI_leI (show N < 2 ^ 31 by omega) (show k < 2 ^ 31 by omega), show ¬ N ≤ k by omega, eq_false h1, e158, e162, mo, vp_in_nI (show k < 200 by omega) (show 200 < 2 ^ 31 by decide), nI_clamp (show k < 2 ^ 31 by omega)]
      refine mz_callV (by simp only [d_Model_leave, Nat.reduceAdd]) g_11_98 rfl (fun _ _ h => h) (c_Model_cardAtG G n f e158 e160 hd hi) e158 rfl rfl (by decide) (Nat.le_of_ble_eq_true rfl) rfl ?_; intro v_ n_ f_ h_; obtain ⟨rfl, hn_, hf_⟩ := h_; replace hn_ := hn_.symm; replace hf_ := hf_.symm; subst hn_; subst hf_
      by_cases h2 : s k = g (200 * d + i)
      · rw [mk_b_t (show goR s (g (200 * d + i)) (k + 1) = true by simp [goR, h2])] at ihk
        refine mz_go [23] 30 ?_
        simp only [mz_run, ev_0, ev_1, ev_2, ev_3, ev_4, ev_5, ev_6, ev_7, ev_8, ev_9, ev_10, ev_11, ev_12, ev_13, ev_14, ev_15, ev_16, ev_17, ev_18, ev_19, ev_20, ev_21, ev_22, ev_23, ev_24, ev_25, ev_26, ev_27, ev_28, ev_29, ev_30, ev_31, ev_32, ev_33, ev_34, ev_35, ev_36, ev_37, ev_38, ev_39, ev_40, ev_41, ev_42, ev_43, ev_44, ev_45, ev_46, ev_47, ev_48, ev_49, ev_50, ev_51, ev_52, ev_53, ev_54, ev_55, ev_56, ev_57, ev_58, ev_59, ev_60, ev_61, ev_62, ev_63, ev_64, ev_65, ev_66, ev_67, ev_68, ev_69, ev_70, ev_71, ev_72, ev_73, ev_74, ev_75, ev_76, ev_77, ev_78, ev_79, ev_80, ev_81, ev_82, ev_83, mk_lit, mk_fin, mk_cat, mk_fit, mk_nar, mk_fld, mk_cls, mk_ty, mk_isr, List.mem_cons, List.not_mem_nil, or_false, or_true, false_or, true_or, Nat.reduceEqDiff, Nat.reduceAdd, Nat.reduceSub, Nat.reduceLT, Nat.reduceLeDiff, reduceIte, if_true, if_false, List.getElem?_cons_zero, List.getElem?_cons_succ, List.set_cons_zero, List.set_cons_succ, List.length_cons, List.length_nil, mz_s1, mz_s2, mz_cl, true_and, and_true, false_and, and_false, List.append_nil, mk_b0, mk_b1, mk_b2, mk_bn, Value.int.injEq, Option.toList_some, Option.toList_none, List.cons_append, List.nil_append, Classical.not_not, Option.some.injEq, reduceCtorEq, ne_eq, not_true_eq_false, not_false_eq_true, false_implies, true_implies, d_Model_leave, j_Model_leave, nF_11, eq_true h2, nI_add]
        exact ihk
      · rw [mk_b_f (show ¬ goR s (g (200 * d + i)) (k + 1) = true by simp [goR, h1, h2])] at ihk
        refine mz_go [23] 30 ?_
        simp only [mz_run, ev_0, ev_1, ev_2, ev_3, ev_4, ev_5, ev_6, ev_7, ev_8, ev_9, ev_10, ev_11, ev_12, ev_13, ev_14, ev_15, ev_16, ev_17, ev_18, ev_19, ev_20, ev_21, ev_22, ev_23, ev_24, ev_25, ev_26, ev_27, ev_28, ev_29, ev_30, ev_31, ev_32, ev_33, ev_34, ev_35, ev_36, ev_37, ev_38, ev_39, ev_40, ev_41, ev_42, ev_43, ev_44, ev_45, ev_46, ev_47, ev_48, ev_49, ev_50, ev_51, ev_52, ev_53, ev_54, ev_55, ev_56, ev_57, ev_58, ev_59, ev_60, ev_61, ev_62, ev_63, ev_64, ev_65, ev_66, ev_67, ev_68, ev_69, ev_70, ev_71, ev_72, ev_73, ev_74, ev_75, ev_76, ev_77, ev_78, ev_79, ev_80, ev_81, ev_82, ev_83, mk_lit, mk_fin, mk_cat, mk_fit, mk_nar, mk_fld, mk_cls, mk_ty, mk_isr, List.mem_cons, List.not_mem_nil, or_false, or_true, false_or, true_or, Nat.reduceEqDiff, Nat.reduceAdd, Nat.reduceSub, Nat.reduceLT, Nat.reduceLeDiff, reduceIte, if_true, if_false, List.getElem?_cons_zero, List.getElem?_cons_succ, List.set_cons_zero, List.set_cons_succ, List.length_cons, List.length_nil, mz_s1, mz_s2, mz_cl, true_and, and_true, false_and, and_false, List.append_nil, mk_b0, mk_b1, mk_b2, mk_bn, Value.int.injEq, Option.toList_some, Option.toList_none, List.cons_append, List.nil_append, Classical.not_not, Option.some.injEq, reduceCtorEq, ne_eq, not_true_eq_false, not_false_eq_true, false_implies, true_implies, d_Model_leave, j_Model_leave, nF_11, eq_false h2, nI_add]
        exact ihk
def lvPost (f : mz_H) (K ln n d N : Nat) (S W : Nat → Nat) (g s : Nat → Int32) (v : Option Value) (n' : Nat) (f' : mz_H) : Prop := v = none ∧ n' = n ∧ ∃ left g', left + cntB (fun i => goR s (g (200 * d + i)) N) (S d) = S d ∧ MP f' K ln (va_up S d left) W ∧ f' 160 = aS 1600 g' ∧ (∀ d' i, d' < 8 → i < 200 → d' ≠ d → g' (200 * d' + i) = g (200 * d' + i)) ∧ f' 162 = f 162 ∧ FrC f f'
/-- leave: the way back -/
theorem l_Model_leave3 (G : mz_G) (n : Nat) (f0 f : mz_H) {K ln d N left : Nat} {t p br u a : Int32} {S W : Nat → Nat} {s g r : Nat → Int32} {w3 w4 w7 w8 : Option Value} (e158 : f 158 = mo t K ln p br u a) (h : MP f K ln (va_up S d left) W) (e163 : f 163 = aS 200 r) (hv : ∀ j, j < left → vc K (r j)) (hd : d < 8) (hl : left ≤ 200) (hc : left + cntB (fun i => goR s (g (200 * d + i)) N) (S d) = S d) (h162 : f 162 = f0 162) (hF : FrC f0 f) :
    ∀ m k g1, k + m = left → (∀ d' i, d' < 8 → i < va_up S d left d' → ∃ c, c < K ∧ g1 (200 * d' + i) = nI c) → (∀ d' i, d' < 8 → i < 200 → d' ≠ d → g1 (200 * d' + i) = g (200 * d' + i)) → mz_X G mk_P 11 false b_Model_leave 9 none (r_Model_leave 0 0) (lvPost f0 K ln n d N S W g s) (fun _ _ _ => False) 104 [some (.ref 158), some (.int (nI d)), some (.int (nI N)), w3, w4, some (.int (nI left)), some (.int (nI k)), w7, w8] [] 0 0 n (mz_u f 160 (aS 1600 g1)) := by
  have hK := h.1.2.1
  intro m
  induction m with
  | zero =>
    intro k g1 hk hg hg2
    refine mz_go [104] 30 ?_
    simp only [mz_run, ev_0, ev_1, ev_2, ev_3, ev_4, ev_5, ev_6, ev_7, ev_8, ev_9, ev_10, ev_11, ev_12, ev_13, ev_14, ev_15, ev_16, ev_17, ev_18, ev_19, ev_20, ev_21, ev_22, ev_23, ev_24, ev_25, ev_26, ev_27, ev_28, ev_29, ev_30, ev_31, ev_32, ev_33, ev_34, ev_35, ev_36, ev_37, ev_38, ev_39, ev_40, ev_41, ev_42, ev_43, ev_44, ev_45, ev_46, ev_47, ev_48, ev_49, ev_50, ev_51, ev_52, ev_53, ev_54, ev_55, ev_56, ev_57, ev_58, ev_59, ev_60, ev_61, ev_62, ev_63, ev_64, ev_65, ev_66, ev_67, ev_68, ev_69, ev_70, ev_71, ev_72, ev_73, ev_74, ev_75, ev_76, ev_77, ev_78, ev_79, ev_80, ev_81, ev_82, ev_83, mk_lit, mk_fin, mk_cat, mk_fit, mk_nar, mk_fld, mk_cls, mk_ty, mk_isr, List.mem_cons, List.not_mem_nil, or_false, or_true, false_or, true_or, Nat.reduceEqDiff, Nat.reduceAdd, Nat.reduceSub, Nat.reduceLT, Nat.reduceLeDiff, reduceIte, if_true, if_false, List.getElem?_cons_zero, List.getElem?_cons_succ, List.set_cons_zero, List.set_cons_succ, List.length_cons, List.length_nil, mz_s1, mz_s2, mz_cl, true_and, and_true, false_and, and_false, List.append_nil, mk_b0, mk_b1, mk_b2, mk_bn, Value.int.injEq, Option.toList_some, Option.toList_none, List.cons_append, List.nil_append, Classical.not_not, Option.some.injEq, reduceCtorEq, ne_eq, not_true_eq_false, not_false_eq_true, false_implies, true_implies, d_Model_leave, j_Model_leave, nF_11, nI_leI (show left < 2 ^ 31 by omega) (show k < 2 ^ 31 by omega), show left ≤ k by omega]
    exact ⟨rfl, rfl, left, g1, hc, MP_160 h hg, mz_u_s _ _ _, hg2, (mz_u_n (by decide)).trans h162, FrC_u hF (by decide) _⟩
  | succ m ih =>
    intro k g1 hk hg hg2
    obtain ⟨c, hc', ec⟩ := hv k (by omega)
    refine mz_go [104] 30 ?_
    simp only [mz_run, ev_0, ev_1, ev_2, ev_3, ev_4, ev_5, ev_6, ev_7, ev_8, ev_9, ev_10, ev_11, ev_12, ev_13, ev_14, ev_15, ev_16, ev_17, ev_18, ev_19, ev_20, ev_21, ev_22, ev_23, ev_24, ev_25, ev_26, ev_27, ev_28, ev_29, ev_30, ev_31, ev_32, ev_33, ev_34, ev_35, ev_36, ev_37, ev_38, ev_39, ev_40, ev_41, ev_42, ev_43, ev_44, ev_45, ev_46, ev_47, ev_48, ev_49, ev_50, ev_51, ev_52, ev_53, ev_54, ev_55, ev_56, ev_57, ev_58, ev_59, ev_60, ev_61, ev_62, ev_63, ev_64, ev_65, ev_66, ev_67, ev_68, ev_69, ev_70, ev_71, ev_72, ev_73, ev_74, ev_75, ev_76, ev_77, ev_78, ev_79, ev_80, ev_81, ev_82, ev_83, mk_lit, mk_fin, mk_cat, mk_fit, mk_nar, mk_fld, mk_cls, mk_ty, mk_isr, List.mem_cons, List.not_mem_nil, or_false, or_true, false_or, true_or, Nat.reduceEqDiff, Nat.reduceAdd, Nat.reduceSub, Nat.reduceLT, Nat.reduceLeDiff, reduceIte, if_true, if_false, List.getElem?_cons_zero, List.getElem?_cons_succ, List.set_cons_zero, List.set_cons_succ, List.length_cons, List.length_nil, mz_s1, mz_s2, mz_cl, true_and, and_true, false_and, and_false, List.append_nil, mk_b0, mk_b1, mk_b2, mk_bn, Value.int.injEq, Option.toList_some, Option.toList_none, List.cons_append, List.nil_append, Classical.not_not, Option.some.injEq, reduceCtorEq, ne_eq, not_true_eq_false, not_false_eq_true, false_implies, true_implies, d_Model_leave, j_Model_leave, nF_11, nI_leI (show left < 2 ^ 31 by omega) (show k < 2 ^ 31 by omega), show ¬ left ≤ k by omega, mz_u_n (show 158 ≠ 160 by decide), mz_u_n (show 163 ≠ 160 by decide), e158, e163, mo, mz_u_s, mz_uu, pk_mul, nI_add, vp_in_nI (show 200 * d + k < 1600 by omega) (show 1600 < 2 ^ 31 by decide), nI_clamp (show 200 * d + k < 2 ^ 31 by omega), vp_in_nI (show k < 200 by omega) (show 200 < 2 ^ 31 by decide), nI_clamp (show k < 2 ^ 31 by omega), ec, n2sn c (by omega)]
    exact ih (k + 1) _ (by omega) (vd_upd hc' hg) (fun d' i h1 h2 h3 => by rw [pk_un (by omega)]; exact hg2 d' i h1 h2 h3)
theorem l_Model_leave2 (G : mz_G) (n : Nat) (f0 f : mz_H) {K ln d N : Nat} {t p br u a : Int32} {S W : Nat → Nat} {s g : Nat → Int32} {w3 : Option Value} {v4 : Int32} (e158 : f 158 = mo t K ln p br u a) (h : MP f K ln S W) (e160 : f 160 = aS 1600 g) (e162 : f 162 = aS 200 s) (hd : d < 8) (hN : N ≤ 200) (h162 : f 162 = f0 162) (hF : FrC f0 f) :
    ∀ m i left r w7 w8, i + m = S d → left + cntB (fun i => goR s (g (200 * d + i)) N) i = i → (∀ j, j < left → vc K (r j)) → mz_X G mk_P 11 false b_Model_leave 9 none (r_Model_leave 0 0) (lvPost f0 K ln n d N S W g s) (fun _ _ _ => False) 6 [some (.ref 158), some (.int (nI d)), some (.int (nI N)), w3, some (.int v4), some (.int (nI left)), some (.int (nI i)), w7, w8] [] 0 0 n (mz_u f 163 (aS 200 r)) := by
  have hK := h.1.2.1
  have hsz := MP_sz h hd
  have e161 := h.2.1.1
  have hg : ∀ d i, d < 8 → i < S d → ∃ c, c < K ∧ g (200 * d + i) = nI c := by
    obtain ⟨g', e', hg'⟩ := h.2.1.2.2
    rw [e160] at e'
    have : g = g' := by injection e' with q; injection q with q1 q2; injection q2 with q3 q4; injection q4 with q5
    rw [this]; exact hg'
  intro m
  induction m with
  | zero =>
    intro i left r w7 w8 hi hl hv
    have : i = S d := by omega
    subst this
    refine mz_go [6, 104] 40 ?_
    simp only [mz_run, ev_0, ev_1, ev_2, ev_3, ev_4, ev_5, ev_6, ev_7, ev_8, ev_9, ev_10, ev_11, ev_12, ev_13, ev_14, ev_15, ev_16, ev_17, ev_18, ev_19, ev_20, ev_21, ev_22, ev_23, ev_24, ev_25, ev_26, ev_27, ev_28, ev_29, ev_30, ev_31, ev_32, ev_33, ev_34, ev_35, ev_36, ev_37, ev_38, ev_39, ev_40, ev_41, ev_42, ev_43, ev_44, ev_45, ev_46, ev_47, ev_48, ev_49, ev_50, ev_51, ev_52, ev_53, ev_54, ev_55, ev_56, ev_57, ev_58, ev_59, ev_60, ev_61, ev_62, ev_63, ev_64, ev_65, ev_66, ev_67, ev_68, ev_69, ev_70, ev_71, ev_72, ev_73, ev_74, ev_75, ev_76, ev_77, ev_78, ev_79, ev_80, ev_81, ev_82, ev_83, mk_lit, mk_fin, mk_cat, mk_fit, mk_nar, mk_fld, mk_cls, mk_ty, mk_isr, List.mem_cons, List.not_mem_nil, or_false, or_true, false_or, true_or, Nat.reduceEqDiff, Nat.reduceAdd, Nat.reduceSub, Nat.reduceLT, Nat.reduceLeDiff, reduceIte, if_true, if_false, List.getElem?_cons_zero, List.getElem?_cons_succ, List.set_cons_zero, List.set_cons_succ, List.length_cons, List.length_nil, mz_s1, mz_s2, mz_cl, true_and, and_true, false_and, and_false, List.append_nil, mk_b0, mk_b1, mk_b2, mk_bn, Value.int.injEq, Option.toList_some, Option.toList_none, List.cons_append, List.nil_append, Classical.not_not, Option.some.injEq, reduceCtorEq, ne_eq, not_true_eq_false, not_false_eq_true, false_implies, true_implies, d_Model_leave, j_Model_leave, nF_11, mz_u_n (show 158 ≠ 163 by decide), mz_u_n (show 161 ≠ 163 by decide), e158, e161, mo, vp_in_nI (show d < 8 by omega) (show 8 < 2 ^ 31 by decide), nI_clamp (show d < 2 ^ 31 by omega), nI_leI (show S d < 2 ^ 31 by omega) (show S d < 2 ^ 31 by omega), Nat.le_refl, upd_nI]
    have hM : MP (mz_u (mz_u f 163 (aS 200 r)) 161 (aI 8 (fun j => nI (va_up S d left j)))) K ln (va_up S d left) W := by
      refine MP_dk (MP_163 h r) (fun q z1 z2 => mz_u_n z2) ⟨mz_u_s _ _ _, fun d' hd' => ?_, g, (mz_u_n (by decide)).trans ((mz_u_n (by decide)).trans e160), fun d' j hd' hj => ?_⟩
      · by_cases e : d' = d
        · subst e; rw [va_up_s]; omega
        · rw [va_up_n e]; exact MP_sz h hd'
      · by_cases e : d' = d
        · subst e; rw [va_up_s] at hj; exact hg d' j hd' (by omega)
        · rw [va_up_n e] at hj; exact hg d' j hd' hj
    have w := l_Model_leave3 G n f0 _ (s := s) (g := g) (r := r) (N := N) (w3 := w3) (w4 := some (.int v4)) (w7 := w7) (w8 := w8) ((mz_u_n (by decide)).trans ((mz_u_n (by decide)).trans e158)) hM ((mz_u_n (by decide)).trans (mz_u_s _ _ _)) hv hd (by omega) hl ((mz_u_n (by decide)).trans ((mz_u_n (by decide)).trans h162)) (FrC_u (FrC_u hF (by decide) _) (by decide) _) left 0 g (by omega) (fun d' j hd' hj => by
      by_cases e : d' = d
      · subst e; rw [va_up_s] at hj; exact hg d' j hd' (by omega)
      · rw [va_up_n e] at hj; exact hg d' j hd' hj) (fun _ _ _ _ _ => rfl)
    rw [mz_ui (show _ = aS 1600 g from (mz_u_n (by decide)).trans ((mz_u_n (by decide)).trans e160))] at w
    exact w
  | succ m ih =>
    intro i left r w7 w8 hi hl hv
    have e158' : (mz_u f 163 (aS 200 r)) 158 = mo t K ln p br u a := (mz_u_n (by decide)).trans e158
    have e160' : (mz_u f 163 (aS 200 r)) 160 = aS 1600 g := (mz_u_n (by decide)).trans e160
    have e162' : (mz_u f 163 (aS 200 r)) 162 = aS 200 s := (mz_u_n (by decide)).trans e162
    obtain ⟨c, hc, ec⟩ := hg d i hd (by omega)
    have hcs : cntB (fun i => goR s (g (200 * d + i)) N) (i + 1) = cntB (fun i => goR s (g (200 * d + i)) N) i + (if goR s (g (200 * d + i)) N = true then 1 else 0) := rfl
    refine mz_go [23] 40 ?_
    simp only [mz_run, ev_0, ev_1, ev_2, ev_3, ev_4, ev_5, ev_6, ev_7, ev_8, ev_9, ev_10, ev_11, ev_12, ev_13, ev_14, ev_15, ev_16, ev_17, ev_18, ev_19, ev_20, ev_21, ev_22, ev_23, ev_24, ev_25, ev_26, ev_27, ev_28, ev_29, ev_30, ev_31, ev_32, ev_33, ev_34, ev_35, ev_36, ev_37, ev_38, ev_39, ev_40, ev_41, ev_42, ev_43, ev_44, ev_45, ev_46, ev_47, ev_48, ev_49, ev_50, ev_51, ev_52, ev_53, ev_54, ev_55, ev_56, ev_57, ev_58, ev_59, ev_60, ev_61, ev_62, ev_63, ev_64, ev_65, ev_66, ev_67, ev_68, ev_69, ev_70, ev_71, ev_72, ev_73, ev_74, ev_75, ev_76, ev_77, ev_78, ev_79, ev_80, ev_81, ev_82, ev_83, mk_lit, mk_fin, mk_cat, mk_fit, mk_nar, mk_fld, mk_cls, mk_ty, mk_isr, List.mem_cons, List.not_mem_nil, or_false, or_true, false_or, true_or, Nat.reduceEqDiff, Nat.reduceAdd, Nat.reduceSub, Nat.reduceLT, Nat.reduceLeDiff, reduceIte, if_true, if_false, List.getElem?_cons_zero, List.getElem?_cons_succ, List.set_cons_zero, List.set_cons_succ, List.length_cons, List.length_nil, mz_s1, mz_s2, mz_cl, true_and, and_true, false_and, and_false, List.append_nil, mk_b0, mk_b1, mk_b2, mk_bn, Value.int.injEq, Option.toList_some, Option.toList_none, List.cons_append, List.nil_append, Classical.not_not, Option.some.injEq, reduceCtorEq, ne_eq, not_true_eq_false, not_false_eq_true, false_implies, true_implies, d_Model_leave, j_Model_leave, nF_11, mz_u_n (show 158 ≠ 163 by decide), mz_u_n (show 161 ≠ 163 by decide), e158, e161, mo, vp_in_nI (show d < 8 by omega) (show 8 < 2 ^ 31 by decide), nI_clamp (show d < 2 ^ 31 by omega), nI_leI (show S d < 2 ^ 31 by omega) (show i < 2 ^ 31 by omega), show ¬ S d ≤ i by omega]
    refine l_Model_leave1 G n _ (left := left) (w3 := w3) (w4 := some (.int v4)) _ e158' e160' e162' hd (show i < 200 by omega) hN ?_ N 0 (by omega)
    by_cases hgo : goR s (g (200 * d + i)) N = true
    · rw [if_pos hgo] at hcs
      refine mz_go [6] 40 ?_
      simp only [mz_run, ev_0, ev_1, ev_2, ev_3, ev_4, ev_5, ev_6, ev_7, ev_8, ev_9, ev_10, ev_11, ev_12, ev_13, ev_14, ev_15, ev_16, ev_17, ev_18, ev_19, ev_20, ev_21, ev_22, ev_23, ev_24, ev_25, ev_26, ev_27, ev_28, ev_29, ev_30, ev_31, ev_32, ev_33, ev_34, ev_35, ev_36, ev_37, ev_38, ev_39, ev_40, ev_41, ev_42, ev_43, ev_44, ev_45, ev_46, ev_47, ev_48, ev_49, ev_50, ev_51, ev_52, ev_53, ev_54, ev_55, ev_56, ev_57, ev_58, ev_59, ev_60, ev_61, ev_62, ev_63, ev_64, ev_65, ev_66, ev_67, ev_68, ev_69, ev_70, ev_71, ev_72, ev_73, ev_74, ev_75, ev_76, ev_77, ev_78, ev_79, ev_80, ev_81, ev_82, ev_83, mk_lit, mk_fin, mk_cat, mk_fit, mk_nar, mk_fld, mk_cls, mk_ty, mk_isr, List.mem_cons, List.not_mem_nil, or_false, or_true, false_or, true_or, Nat.reduceEqDiff, Nat.reduceAdd, Nat.reduceSub, Nat.reduceLT, Nat.reduceLeDiff, reduceIte, if_true, if_false, List.getElem?_cons_zero, List.getElem?_cons_succ, List.set_cons_zero, List.set_cons_succ, List.length_cons, List.length_nil, mz_s1, mz_s2, mz_cl, true_and, and_true, false_and, and_false, List.append_nil, mk_b0, mk_b1, mk_b2, mk_bn, Value.int.injEq, Option.toList_some, Option.toList_none, List.cons_append, List.nil_append, Classical.not_not, Option.some.injEq, reduceCtorEq, ne_eq, not_true_eq_false, not_false_eq_true, false_implies, true_implies, d_Model_leave, j_Model_leave, nF_11, eq_true hgo, nI_add]
      exact ih (i + 1) left r _ _ (by omega) (by omega) hv
    · rw [if_neg hgo] at hcs
      refine mz_go [79] 40 ?_
      simp only [mz_run, ev_0, ev_1, ev_2, ev_3, ev_4, ev_5, ev_6, ev_7, ev_8, ev_9, ev_10, ev_11, ev_12, ev_13, ev_14, ev_15, ev_16, ev_17, ev_18, ev_19, ev_20, ev_21, ev_22, ev_23, ev_24, ev_25, ev_26, ev_27, ev_28, ev_29, ev_30, ev_31, ev_32, ev_33, ev_34, ev_35, ev_36, ev_37, ev_38, ev_39, ev_40, ev_41, ev_42, ev_43, ev_44, ev_45, ev_46, ev_47, ev_48, ev_49, ev_50, ev_51, ev_52, ev_53, ev_54, ev_55, ev_56, ev_57, ev_58, ev_59, ev_60, ev_61, ev_62, ev_63, ev_64, ev_65, ev_66, ev_67, ev_68, ev_69, ev_70, ev_71, ev_72, ev_73, ev_74, ev_75, ev_76, ev_77, ev_78, ev_79, ev_80, ev_81, ev_82, ev_83, mk_lit, mk_fin, mk_cat, mk_fit, mk_nar, mk_fld, mk_cls, mk_ty, mk_isr, List.mem_cons, List.not_mem_nil, or_false, or_true, false_or, true_or, Nat.reduceEqDiff, Nat.reduceAdd, Nat.reduceSub, Nat.reduceLT, Nat.reduceLeDiff, reduceIte, if_true, if_false, List.getElem?_cons_zero, List.getElem?_cons_succ, List.set_cons_zero, List.set_cons_succ, List.length_cons, List.length_nil, mz_s1, mz_s2, mz_cl, true_and, and_true, false_and, and_false, List.append_nil, mk_b0, mk_b1, mk_b2, mk_bn, Value.int.injEq, Option.toList_some, Option.toList_none, List.cons_append, List.nil_append, Classical.not_not, Option.some.injEq, reduceCtorEq, ne_eq, not_true_eq_false, not_false_eq_true, false_implies, true_implies, d_Model_leave, j_Model_leave, nF_11, eq_false hgo, mz_u_n (show 158 ≠ 163 by decide), e158, mo]
      refine mz_callV (by simp only [d_Model_leave, Nat.reduceAdd]) g_11_98 rfl (fun _ _ h => h) (c_Model_cardAtG G n _ e158' e160' hd (show i < 200 by omega)) e158' rfl rfl (by decide) (Nat.le_of_ble_eq_true rfl) rfl ?_; intro v_ n_ f_ h_; obtain ⟨rfl, hn_, hf_⟩ := h_; replace hn_ := hn_.symm; replace hf_ := hf_.symm; subst hn_; subst hf_
      rw [ec]
      refine mz_go [6] 40 ?_
      simp only [mz_run, ev_0, ev_1, ev_2, ev_3, ev_4, ev_5, ev_6, ev_7, ev_8, ev_9, ev_10, ev_11, ev_12, ev_13, ev_14, ev_15, ev_16, ev_17, ev_18, ev_19, ev_20, ev_21, ev_22, ev_23, ev_24, ev_25, ev_26, ev_27, ev_28, ev_29, ev_30, ev_31, ev_32, ev_33, ev_34, ev_35, ev_36, ev_37, ev_38, ev_39, ev_40, ev_41, ev_42, ev_43, ev_44, ev_45, ev_46, ev_47, ev_48, ev_49, ev_50, ev_51, ev_52, ev_53, ev_54, ev_55, ev_56, ev_57, ev_58, ev_59, ev_60, ev_61, ev_62, ev_63, ev_64, ev_65, ev_66, ev_67, ev_68, ev_69, ev_70, ev_71, ev_72, ev_73, ev_74, ev_75, ev_76, ev_77, ev_78, ev_79, ev_80, ev_81, ev_82, ev_83, mk_lit, mk_fin, mk_cat, mk_fit, mk_nar, mk_fld, mk_cls, mk_ty, mk_isr, List.mem_cons, List.not_mem_nil, or_false, or_true, false_or, true_or, Nat.reduceEqDiff, Nat.reduceAdd, Nat.reduceSub, Nat.reduceLT, Nat.reduceLeDiff, reduceIte, if_true, if_false, List.getElem?_cons_zero, List.getElem?_cons_succ, List.set_cons_zero, List.set_cons_succ, List.length_cons, List.length_nil, mz_s1, mz_s2, mz_cl, true_and, and_true, false_and, and_false, List.append_nil, mk_b0, mk_b1, mk_b2, mk_bn, Value.int.injEq, Option.toList_some, Option.toList_none, List.cons_append, List.nil_append, Classical.not_not, Option.some.injEq, reduceCtorEq, ne_eq, not_true_eq_false, not_false_eq_true, false_implies, true_implies, d_Model_leave, j_Model_leave, nF_11, mz_u_s, mz_uu, vp_in_nI (show left < 200 by omega) (show 200 < 2 ^ 31 by decide), nI_clamp (show left < 2 ^ 31 by omega), n2s c (by omega), n2sn c (by omega), nI_add]
      exact ih (i + 1) (left + 1) _ _ _ (by omega) (by omega) (fun j hj => by
        by_cases e : j = left
        · subst e; exact ⟨c, hc, pk_us⟩
        · rw [pk_un e]; exact hv j (by omega))
theorem c_Model_leave (G : mz_G) (n : Nat) (f : mz_H) {K ln d N fr to : Nat} {S W : Nat → Nat} {s g : Nat → Int32} (h : MP f K ln S W) (e160 : f 160 = aS 1600 g) (e162 : f 162 = aS 200 s) (hd : d < 8) (hN : N ≤ 200) : mz_Ct G mk_P y_Model_leave b_Model_leave 9 none (r_Model_leave 0 0) [.ref 158, .int (nI d), .int (nI N), .int (nI fr), .int (nI to)] n f (lvPost f K ln n d N S W g s) := by
  obtain ⟨t, p, br, u, a, e158⟩ := h.1.1
  obtain ⟨r, e163⟩ := h.2.2.2.2.2.1
  refine mk_Ct 11 false [some (.ref 158), some (.int (nI d)), some (.int (nI N)), some (.int (nI fr)), some (.int (nI to)), none, none, none, none] (by decide) rfl (by decide) (Nat.le_of_ble_eq_true rfl) rfl ?_
  refine mz_go [6] 30 ?_
  simp only [mz_run, ev_0, ev_1, ev_2, ev_3, ev_4, ev_5, ev_6, ev_7, ev_8, ev_9, ev_10, ev_11, ev_12, ev_13, ev_14, ev_15, ev_16, ev_17, ev_18, ev_19, ev_20, ev_21, ev_22, ev_23, ev_24, ev_25, ev_26, ev_27, ev_28, ev_29, ev_30, ev_31, ev_32, ev_33, ev_34, ev_35, ev_36, ev_37, ev_38, ev_39, ev_40, ev_41, ev_42, ev_43, ev_44, ev_45, ev_46, ev_47, ev_48, ev_49, ev_50, ev_51, ev_52, ev_53, ev_54, ev_55, ev_56, ev_57, ev_58, ev_59, ev_60, ev_61, ev_62, ev_63, ev_64, ev_65, ev_66, ev_67, ev_68, ev_69, ev_70, ev_71, ev_72, ev_73, ev_74, ev_75, ev_76, ev_77, ev_78, ev_79, ev_80, ev_81, ev_82, ev_83, mk_lit, mk_fin, mk_cat, mk_fit, mk_nar, mk_fld, mk_cls, mk_ty, mk_isr, List.mem_cons, List.not_mem_nil, or_false, or_true, false_or, true_or, Nat.reduceEqDiff, Nat.reduceAdd, Nat.reduceSub, Nat.reduceLT, Nat.reduceLeDiff, reduceIte, if_true, if_false, List.getElem?_cons_zero, List.getElem?_cons_succ, List.set_cons_zero, List.set_cons_succ, List.length_cons, List.length_nil, mz_s1, mz_s2, mz_cl, true_and, and_true, false_and, and_false, List.append_nil, mk_b0, mk_b1, mk_b2, mk_bn, Value.int.injEq, Option.toList_some, Option.toList_none, List.cons_append, List.nil_append, Classical.not_not, Option.some.injEq, reduceCtorEq, ne_eq, not_true_eq_false, not_false_eq_true, false_implies, true_implies, d_Model_leave, j_Model_leave, nF_11]
  have := l_Model_leave2 G n f f (w3 := some (.int (nI fr))) (v4 := nI to) e158 h e160 e162 hd hN rfl (FrC_rf f) (S d) 0 0 r none none (by omega) rfl (fun j hj => absurd hj (by omega))
  rw [mz_ui e163] at this
  exact this
