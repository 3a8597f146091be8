/-! match in the reference: what goes, what stays -/
def tkQ (f : mz_H) (n K d o fr to off : Nat) (S : Nat → Nat) (cD sD : Nat → Nat → Nat) (P : Nat → Prop) (E : Nat → Nat) (n0 : Nat) (v : Option Value) (n' : Nat) (f' : mz_H) : Prop := n' = n ∧ ∃ N s' r π, v = some (.int (nI N)) ∧ f' = mz_u f 162 (aS 200 s') ∧ N ≤ n0 + S d ∧ rwR s' N K r ∧ (∀ a, a < N → r a = E (π a)) ∧ enP (fun i => keyC sD fr to (E i)) (fun x => P x ∨ (off ≤ x ∧ x < off + S d ∧ hkN sD fr to (cD o) (cD d (x - off)) (S o) = true)) N π
theorem l_Model_take {cD sD : Nat → Nat → Nat} (G : mz_G) (n : Nat) (f : mz_H) {K ln d o fr to n0 off : Nat} {t p br u a : Int32} {S W E : Nat → Nat} {P : Nat → Prop} (e158 : f 158 = mo t K ln p br u a) (h : MP f K ln S W cD sD) (hd : d < 8) (ho : o < 8) (hf : fr ≤ to) (ht : to < 16) (hn : n0 + S d ≤ 200) (hE : ∀ i, i < S d → E (off + i) = cD d i) (hP : ∀ i, P i → i < off) :
    ∀ m i N s1 r π, i + m = S d → N ≤ n0 + i → rwR s1 N K r → (∀ a, a < N → r a = E (π a)) → enP (fun i => keyC sD fr to (E i)) (fun x => P x ∨ (off ≤ x ∧ x < off + i ∧ hkN sD fr to (cD o) (cD d (x - off)) (S o) = true)) N π → mz_X G mk_P 11 false b_Model_take 8 (some .int) (r_Model_take 0 0) (tkQ f n K d o fr to off S cD sD P E n0) (fun _ _ _ => False) 7 [some (.ref 158), some (.int (nI d)), some (.int (nI o)), some (.int (nI fr)), some (.int (nI to)), some (.int (nI n0)), some (.int (nI N)), some (.int (nI i))] [] 0 0 n (mz_u f 162 (aS 200 s1)) := by
  have hK := h.1.2.1
  have hsz := MP_sz h hd
  have e161 := h.2.1.1
  intro m
  induction m with
  | zero =>
    intro i N s1 r π hi hN h1 h2 h3
    have : i = S d := by omega
    subst this
    refine mz_go [7] 30 ?_
    simp only [mz_run, ev_0, ev_1, ev_2, ev_3, ev_4, ev_5, ev_6, ev_7, ev_8, ev_9, ev_10, ev_11, ev_12, ev_13, ev_14, ev_15, ev_16, ev_17, ev_18, ev_19, ev_20, ev_21, ev_22, ev_23, ev_24, ev_25, ev_26, ev_27, ev_28, ev_29, ev_30, ev_31, ev_32, ev_33, ev_34, ev_35, ev_36, ev_37, ev_38, ev_39, ev_40, ev_41, ev_42, ev_43, ev_44, ev_45, ev_46, ev_47, ev_48, ev_49, ev_50, ev_51, ev_52, ev_53, ev_54, ev_55, ev_56, ev_57, ev_58, ev_59, ev_60, ev_61, ev_62, ev_63, ev_64, ev_65, ev_66, ev_67, ev_68, ev_69, ev_70, ev_71, ev_72, ev_73, ev_74, ev_75, ev_76, ev_77, ev_78, ev_79, ev_80, ev_81, ev_82, ev_83, mk_lit, mk_fin, mk_cat, mk_fit, mk_nar, mk_fld, mk_cls, mk_ty, mk_isr, List.mem_cons, List.not_mem_nil, or_false, or_true, false_or, true_or, Nat.reduceEqDiff, Nat.reduceAdd, Nat.reduceSub, Nat.reduceLT, Nat.reduceLeDiff, reduceIte, if_true, if_false, List.getElem?_cons_zero, List.getElem?_cons_succ, List.set_cons_zero, List.set_cons_succ, List.length_cons, List.length_nil, mz_s1, mz_s2, mz_cl, true_and, and_true, false_and, and_false, List.append_nil, mk_b0, mk_b1, mk_b2, mk_bn, Value.int.injEq, Option.toList_some, Option.toList_none, List.cons_append, List.nil_append, Classical.not_not, Option.some.injEq, reduceCtorEq, ne_eq, not_true_eq_false, not_false_eq_true, false_implies, true_implies, d_Model_take, j_Model_take, nF_11, mz_u_n (show 158 ≠ 162 by decide), mz_u_n (show 161 ≠ 162 by decide), e158, e161, mo, vp_in_nI (show d < 8 by omega) (show 8 < 2 ^ 31 by decide), nI_clamp (show d < 2 ^ 31 by omega), nI_leI (show S d < 2 ^ 31 by omega) (show S d < 2 ^ 31 by omega), Nat.le_refl]
    exact ⟨rfl, N, s1, r, π, rfl, rfl, hN, h1, h2, h3⟩
  | succ m ih =>
    intro i N s1 r π hi hN h1 h2 h3
    have h' := MP_162 h s1
    have e158' : (mz_u f 162 (aS 200 s1)) 158 = mo t K ln p br u a := (mz_u_n (by decide)).trans e158
    have hlt : i < S d := by omega
    have hc := MP_cd h hd hlt
    have esub : off + i - off = i := by omega
    refine mz_go [24] 30 ?_
    simp only [mz_run, ev_0, ev_1, ev_2, ev_3, ev_4, ev_5, ev_6, ev_7, ev_8, ev_9, ev_10, ev_11, ev_12, ev_13, ev_14, ev_15, ev_16, ev_17, ev_18, ev_19, ev_20, ev_21, ev_22, ev_23, ev_24, ev_25, ev_26, ev_27, ev_28, ev_29, ev_30, ev_31, ev_32, ev_33, ev_34, ev_35, ev_36, ev_37, ev_38, ev_39, ev_40, ev_41, ev_42, ev_43, ev_44, ev_45, ev_46, ev_47, ev_48, ev_49, ev_50, ev_51, ev_52, ev_53, ev_54, ev_55, ev_56, ev_57, ev_58, ev_59, ev_60, ev_61, ev_62, ev_63, ev_64, ev_65, ev_66, ev_67, ev_68, ev_69, ev_70, ev_71, ev_72, ev_73, ev_74, ev_75, ev_76, ev_77, ev_78, ev_79, ev_80, ev_81, ev_82, ev_83, mk_lit, mk_fin, mk_cat, mk_fit, mk_nar, mk_fld, mk_cls, mk_ty, mk_isr, List.mem_cons, List.not_mem_nil, or_false, or_true, false_or, true_or, Nat.reduceEqDiff, Nat.reduceAdd, Nat.reduceSub, Nat.reduceLT, Nat.reduceLeDiff, reduceIte, if_true, if_false, List.getElem?_cons_zero, List.getElem?_cons_succ, List.set_cons_zero, List.set_cons_succ, List.length_cons, List.length_nil, mz_s1, mz_s2, mz_cl, true_and, and_true, false_and, and_false, List.append_nil, mk_b0, mk_b1, mk_b2, mk_bn, Value.int.injEq, Option.toList_some, Option.toList_none, List.cons_append, List.nil_append, Classical.not_not, Option.some.injEq, reduceCtorEq, ne_eq, not_true_eq_false, not_false_eq_true, false_implies, true_implies, d_Model_take, j_Model_take, nF_11, mz_u_n (show 158 ≠ 162 by decide), mz_u_n (show 161 ≠ 162 by decide), e158, e161, mo, vp_in_nI (show d < 8 by omega) (show 8 < 2 ^ 31 by decide), nI_clamp (show d < 2 ^ 31 by omega), nI_leI (show S d < 2 ^ 31 by omega) (show i < 2 ^ 31 by omega), show ¬ S d ≤ i by omega]
    refine mz_callV (by simp only [d_Model_take, Nat.reduceAdd]) g_11_98 rfl (fun _ _ h => h) (c_Model_cardAt G n _ h' hd hlt) e158' rfl rfl (by decide) (Nat.le_of_ble_eq_true rfl) rfl ?_; intro v_ n_ f_ h_; obtain ⟨rfl, hn_, hf_⟩ := h_; replace hn_ := hn_.symm; replace hf_ := hf_.symm; subst hn_; subst hf_
    refine mz_go [30] 30 ?_
    simp only [mz_run, ev_0, ev_1, ev_2, ev_3, ev_4, ev_5, ev_6, ev_7, ev_8, ev_9, ev_10, ev_11, ev_12, ev_13, ev_14, ev_15, ev_16, ev_17, ev_18, ev_19, ev_20, ev_21, ev_22, ev_23, ev_24, ev_25, ev_26, ev_27, ev_28, ev_29, ev_30, ev_31, ev_32, ev_33, ev_34, ev_35, ev_36, ev_37, ev_38, ev_39, ev_40, ev_41, ev_42, ev_43, ev_44, ev_45, ev_46, ev_47, ev_48, ev_49, ev_50, ev_51, ev_52, ev_53, ev_54, ev_55, ev_56, ev_57, ev_58, ev_59, ev_60, ev_61, ev_62, ev_63, ev_64, ev_65, ev_66, ev_67, ev_68, ev_69, ev_70, ev_71, ev_72, ev_73, ev_74, ev_75, ev_76, ev_77, ev_78, ev_79, ev_80, ev_81, ev_82, ev_83, mk_lit, mk_fin, mk_cat, mk_fit, mk_nar, mk_fld, mk_cls, mk_ty, mk_isr, List.mem_cons, List.not_mem_nil, or_false, or_true, false_or, true_or, Nat.reduceEqDiff, Nat.reduceAdd, Nat.reduceSub, Nat.reduceLT, Nat.reduceLeDiff, reduceIte, if_true, if_false, List.getElem?_cons_zero, List.getElem?_cons_succ, List.set_cons_zero, List.set_cons_succ, List.length_cons, List.length_nil, mz_s1, mz_s2, mz_cl, true_and, and_true, false_and, and_false, List.append_nil, mk_b0, mk_b1, mk_b2, mk_bn, Value.int.injEq, Option.toList_some, Option.toList_none, List.cons_append, List.nil_append, Classical.not_not, Option.some.injEq, reduceCtorEq, ne_eq, not_true_eq_false, not_false_eq_true, false_implies, true_implies, d_Model_take, j_Model_take, nF_11]
    refine mz_callV (by simp only [d_Model_take, Nat.reduceAdd]) g_11_136 rfl (fun _ _ h => h) (c_Model_hasKeyX G n _ h' ho hc hf ht) e158' rfl rfl (by decide) (Nat.le_of_ble_eq_true rfl) rfl ?_; intro v_ n_ f_ h_; obtain ⟨rfl, hn_, hf_⟩ := h_; replace hn_ := hn_.symm; replace hf_ := hf_.symm; subst hn_; subst hf_
    cases hr : hkN sD fr to (cD o) (cD d i) (S o) with
    | false =>
      refine mz_go [7] 30 ?_
      simp only [mz_run, ev_0, ev_1, ev_2, ev_3, ev_4, ev_5, ev_6, ev_7, ev_8, ev_9, ev_10, ev_11, ev_12, ev_13, ev_14, ev_15, ev_16, ev_17, ev_18, ev_19, ev_20, ev_21, ev_22, ev_23, ev_24, ev_25, ev_26, ev_27, ev_28, ev_29, ev_30, ev_31, ev_32, ev_33, ev_34, ev_35, ev_36, ev_37, ev_38, ev_39, ev_40, ev_41, ev_42, ev_43, ev_44, ev_45, ev_46, ev_47, ev_48, ev_49, ev_50, ev_51, ev_52, ev_53, ev_54, ev_55, ev_56, ev_57, ev_58, ev_59, ev_60, ev_61, ev_62, ev_63, ev_64, ev_65, ev_66, ev_67, ev_68, ev_69, ev_70, ev_71, ev_72, ev_73, ev_74, ev_75, ev_76, ev_77, ev_78, ev_79, ev_80, ev_81, ev_82, ev_83, mk_lit, mk_fin, mk_cat, mk_fit, mk_nar, mk_fld, mk_cls, mk_ty, mk_isr, List.mem_cons, List.not_mem_nil, or_false, or_true, false_or, true_or, Nat.reduceEqDiff, Nat.reduceAdd, Nat.reduceSub, Nat.reduceLT, Nat.reduceLeDiff, reduceIte, if_true, if_false, List.getElem?_cons_zero, List.getElem?_cons_succ, List.set_cons_zero, List.set_cons_succ, List.length_cons, List.length_nil, mz_s1, mz_s2, mz_cl, true_and, and_true, false_and, and_false, List.append_nil, mk_b0, mk_b1, mk_b2, mk_bn, Value.int.injEq, Option.toList_some, Option.toList_none, List.cons_append, List.nil_append, Classical.not_not, Option.some.injEq, reduceCtorEq, ne_eq, not_true_eq_false, not_false_eq_true, false_implies, true_implies, d_Model_take, j_Model_take, nF_11, show (false = true) = False from by simp, nI_add]
      refine ih (i + 1) N s1 r π (by omega) (by omega) h1 h2 (enP_iff h3 (fun x => ?_))
      constructor
      · rintro (z | ⟨z1, z2, z3⟩)
        · exact Or.inl z
        · exact Or.inr ⟨z1, by omega, z3⟩
      · rintro (z | ⟨z1, z2, z3⟩)
        · exact Or.inl z
        · by_cases e : x = off + i
          · subst e; rw [esub, hr] at z3; exact absurd z3 (by decide)
          · exact Or.inr ⟨z1, by omega, z3⟩
    | true =>
      refine mz_go [47] 30 ?_
      simp only [mz_run, ev_0, ev_1, ev_2, ev_3, ev_4, ev_5, ev_6, ev_7, ev_8, ev_9, ev_10, ev_11, ev_12, ev_13, ev_14, ev_15, ev_16, ev_17, ev_18, ev_19, ev_20, ev_21, ev_22, ev_23, ev_24, ev_25, ev_26, ev_27, ev_28, ev_29, ev_30, ev_31, ev_32, ev_33, ev_34, ev_35, ev_36, ev_37, ev_38, ev_39, ev_40, ev_41, ev_42, ev_43, ev_44, ev_45, ev_46, ev_47, ev_48, ev_49, ev_50, ev_51, ev_52, ev_53, ev_54, ev_55, ev_56, ev_57, ev_58, ev_59, ev_60, ev_61, ev_62, ev_63, ev_64, ev_65, ev_66, ev_67, ev_68, ev_69, ev_70, ev_71, ev_72, ev_73, ev_74, ev_75, ev_76, ev_77, ev_78, ev_79, ev_80, ev_81, ev_82, ev_83, mk_lit, mk_fin, mk_cat, mk_fit, mk_nar, mk_fld, mk_cls, mk_ty, mk_isr, List.mem_cons, List.not_mem_nil, or_false, or_true, false_or, true_or, Nat.reduceEqDiff, Nat.reduceAdd, Nat.reduceSub, Nat.reduceLT, Nat.reduceLeDiff, reduceIte, if_true, if_false, List.getElem?_cons_zero, List.getElem?_cons_succ, List.set_cons_zero, List.set_cons_succ, List.length_cons, List.length_nil, mz_s1, mz_s2, mz_cl, true_and, and_true, false_and, and_false, List.append_nil, mk_b0, mk_b1, mk_b2, mk_bn, Value.int.injEq, Option.toList_some, Option.toList_none, List.cons_append, List.nil_append, Classical.not_not, Option.some.injEq, reduceCtorEq, ne_eq, not_true_eq_false, not_false_eq_true, false_implies, true_implies, d_Model_take, j_Model_take, nF_11, show (true = true) = True from by simp, mz_u_n (show 158 ≠ 162 by decide), e158, mo]
      refine mz_callV (by simp only [d_Model_take, Nat.reduceAdd]) g_11_98 rfl (fun _ _ h => h) (c_Model_cardAt G n _ h' hd hlt) e158' rfl rfl (by decide) (Nat.le_of_ble_eq_true rfl) rfl ?_; intro v_ n_ f_ h_; obtain ⟨rfl, hn_, hf_⟩ := h_; replace hn_ := hn_.symm; replace hf_ := hf_.symm; subst hn_; subst hf_
      refine mz_go [53] 30 ?_
      simp only [mz_run, ev_0, ev_1, ev_2, ev_3, ev_4, ev_5, ev_6, ev_7, ev_8, ev_9, ev_10, ev_11, ev_12, ev_13, ev_14, ev_15, ev_16, ev_17, ev_18, ev_19, ev_20, ev_21, ev_22, ev_23, ev_24, ev_25, ev_26, ev_27, ev_28, ev_29, ev_30, ev_31, ev_32, ev_33, ev_34, ev_35, ev_36, ev_37, ev_38, ev_39, ev_40, ev_41, ev_42, ev_43, ev_44, ev_45, ev_46, ev_47, ev_48, ev_49, ev_50, ev_51, ev_52, ev_53, ev_54, ev_55, ev_56, ev_57, ev_58, ev_59, ev_60, ev_61, ev_62, ev_63, ev_64, ev_65, ev_66, ev_67, ev_68, ev_69, ev_70, ev_71, ev_72, ev_73, ev_74, ev_75, ev_76, ev_77, ev_78, ev_79, ev_80, ev_81, ev_82, ev_83, mk_lit, mk_fin, mk_cat, mk_fit, mk_nar, mk_fld, mk_cls, mk_ty, mk_isr, List.mem_cons, List.not_mem_nil, or_false, or_true, false_or, true_or, Nat.reduceEqDiff, Nat.reduceAdd, Nat.reduceSub, Nat.reduceLT, Nat.reduceLeDiff, reduceIte, if_true, if_false, List.getElem?_cons_zero, List.getElem?_cons_succ, List.set_cons_zero, List.set_cons_succ, List.length_cons, List.length_nil, mz_s1, mz_s2, mz_cl, true_and, and_true, false_and, and_false, List.append_nil, mk_b0, mk_b1, mk_b2, mk_bn, Value.int.injEq, Option.toList_some, Option.toList_none, List.cons_append, List.nil_append, Classical.not_not, Option.some.injEq, reduceCtorEq, ne_eq, not_true_eq_false, not_false_eq_true, false_implies, true_implies, d_Model_take, j_Model_take, nF_11]
      refine mz_callV (by simp only [d_Model_take, Nat.reduceAdd]) g_11_129 rfl (fun _ _ h => h) (c_Model_putIn G n _ h' (mz_u_s _ _ _) (show N < 200 by omega) h1 hc hf ht) e158' rfl rfl (by decide) (Nat.le_of_ble_eq_true rfl) rfl ?_; rintro v_ n_ f_ ⟨rfl, hn_, s', pp, hf_, hpp, q0, q1, q2⟩
      replace hn_ := hn_.symm
      subst hn_
      subst hf_
      refine mz_go [7] 30 ?_
      simp only [mz_run, ev_0, ev_1, ev_2, ev_3, ev_4, ev_5, ev_6, ev_7, ev_8, ev_9, ev_10, ev_11, ev_12, ev_13, ev_14, ev_15, ev_16, ev_17, ev_18, ev_19, ev_20, ev_21, ev_22, ev_23, ev_24, ev_25, ev_26, ev_27, ev_28, ev_29, ev_30, ev_31, ev_32, ev_33, ev_34, ev_35, ev_36, ev_37, ev_38, ev_39, ev_40, ev_41, ev_42, ev_43, ev_44, ev_45, ev_46, ev_47, ev_48, ev_49, ev_50, ev_51, ev_52, ev_53, ev_54, ev_55, ev_56, ev_57, ev_58, ev_59, ev_60, ev_61, ev_62, ev_63, ev_64, ev_65, ev_66, ev_67, ev_68, ev_69, ev_70, ev_71, ev_72, ev_73, ev_74, ev_75, ev_76, ev_77, ev_78, ev_79, ev_80, ev_81, ev_82, ev_83, mk_lit, mk_fin, mk_cat, mk_fit, mk_nar, mk_fld, mk_cls, mk_ty, mk_isr, List.mem_cons, List.not_mem_nil, or_false, or_true, false_or, true_or, Nat.reduceEqDiff, Nat.reduceAdd, Nat.reduceSub, Nat.reduceLT, Nat.reduceLeDiff, reduceIte, if_true, if_false, List.getElem?_cons_zero, List.getElem?_cons_succ, List.set_cons_zero, List.set_cons_succ, List.length_cons, List.length_nil, mz_s1, mz_s2, mz_cl, true_and, and_true, false_and, and_false, List.append_nil, mk_b0, mk_b1, mk_b2, mk_bn, Value.int.injEq, Option.toList_some, Option.toList_none, List.cons_append, List.nil_append, Classical.not_not, Option.some.injEq, reduceCtorEq, ne_eq, not_true_eq_false, not_false_eq_true, false_implies, true_implies, d_Model_take, j_Model_take, nF_11, nI_add, mz_uu]
      obtain ⟨e1, e2⟩ := ins_en (E := E) (e := off + i) h3 h2 (hE i hlt).symm (fun x hx => by
        rcases hx with z | z
        · have := hP x z; omega
        · omega) hpp q1 q2
      refine ih (i + 1) (N + 1) s' _ _ (by omega) (by omega) q0 e2 (enP_iff e1 (fun x => ?_))
      constructor
      · rintro ((z | ⟨z1, z2, z3⟩) | rfl)
        · exact Or.inl z
        · exact Or.inr ⟨z1, by omega, z3⟩
        · exact Or.inr ⟨by omega, by omega, by rw [esub]; exact hr⟩
      · rintro (z | ⟨z1, z2, z3⟩)
        · exact Or.inl (Or.inl z)
        · by_cases e : x = off + i
          · exact Or.inr e
          · exact Or.inl (Or.inr ⟨z1, by omega, z3⟩)
theorem c_Model_take {cD sD : Nat → Nat → Nat} (G : mz_G) (n : Nat) (f : mz_H) {K ln d o fr to n0 off : Nat} {S W E r π : Nat → Nat} {P : Nat → Prop} {s : Nat → Int32} (h : MP f K ln S W cD sD) (e162 : f 162 = aS 200 s) (hd : d < 8) (ho : o < 8) (hf : fr ≤ to) (ht : to < 16) (hn : n0 + S d ≤ 200) (hE : ∀ i, i < S d → E (off + i) = cD d i) (hP : ∀ i, P i → i < off) (h1 : rwR s n0 K r) (h2 : ∀ a, a < n0 → r a = E (π a)) (h3 : enP (fun i => keyC sD fr to (E i)) P n0 π) : mz_Ct G mk_P y_Model_take b_Model_take 8 (some .int) (r_Model_take 0 0) [.ref 158, .int (nI d), .int (nI o), .int (nI fr), .int (nI to), .int (nI n0)] n f (tkQ f n K d o fr to off S cD sD P E n0) := by
  obtain ⟨t, p, br, u, a, e158⟩ := h.1.1
  refine mk_Ct 11 false [some (.ref 158), some (.int (nI d)), some (.int (nI o)), some (.int (nI fr)), some (.int (nI to)), some (.int (nI n0)), none, none] (by decide) rfl (by decide) (Nat.le_of_ble_eq_true rfl) rfl ?_
  refine mz_go [7] 30 ?_
  simp only [mz_run, ev_0, ev_1, ev_2, ev_3, ev_4, ev_5, ev_6, ev_7, ev_8, ev_9, ev_10, ev_11, ev_12, ev_13, ev_14, ev_15, ev_16, ev_17, ev_18, ev_19, ev_20, ev_21, ev_22, ev_23, ev_24, ev_25, ev_26, ev_27, ev_28, ev_29, ev_30, ev_31, ev_32, ev_33, ev_34, ev_35, ev_36, ev_37, ev_38, ev_39, ev_40, ev_41, ev_42, ev_43, ev_44, ev_45, ev_46, ev_47, ev_48, ev_49, ev_50, ev_51, ev_52, ev_53, ev_54, ev_55, ev_56, ev_57, ev_58, ev_59, ev_60, ev_61, ev_62, ev_63, ev_64, ev_65, ev_66, ev_67, ev_68, ev_69, ev_70, ev_71, ev_72, ev_73, ev_74, ev_75, ev_76, ev_77, ev_78, ev_79, ev_80, ev_81, ev_82, ev_83, mk_lit, mk_fin, mk_cat, mk_fit, mk_nar, mk_fld, mk_cls, mk_ty, mk_isr, List.mem_cons, List.not_mem_nil, or_false, or_true, false_or, true_or, Nat.reduceEqDiff, Nat.reduceAdd, Nat.reduceSub, Nat.reduceLT, Nat.reduceLeDiff, reduceIte, if_true, if_false, List.getElem?_cons_zero, List.getElem?_cons_succ, List.set_cons_zero, List.set_cons_succ, List.length_cons, List.length_nil, mz_s1, mz_s2, mz_cl, true_and, and_true, false_and, and_false, List.append_nil, mk_b0, mk_b1, mk_b2, mk_bn, Value.int.injEq, Option.toList_some, Option.toList_none, List.cons_append, List.nil_append, Classical.not_not, Option.some.injEq, reduceCtorEq, ne_eq, not_true_eq_false, not_false_eq_true, false_implies, true_implies, d_Model_take, j_Model_take, nF_11]
  have := l_Model_take G n f e158 h hd ho hf ht hn hE hP (S d) 0 n0 s r π (by omega) (by omega) h1 h2 (enP_iff h3 (fun x => ⟨Or.inl, fun z => by
    rcases z with z | z
    · exact z
    · omega⟩))
  rw [mz_ui e162] at this
  exact this
/-- is x among the first n of r -/
def goN (r : Nat → Nat) (x : Nat) : Nat → Bool
  | 0 => false
  | k + 1 => goN r x k || decide (r k = x)
theorem goN_iff {r : Nat → Nat} {x : Nat} : ∀ N, goN r x N = true ↔ ∃ j, j < N ∧ r j = x := by
  intro N
  induction N with
  | zero => exact ⟨fun z => (by cases z), fun ⟨j, h, _⟩ => absurd h (Nat.not_lt_zero _)⟩
  | succ N ih =>
    unfold goN
    rw [Bool.or_eq_true, ih, decide_eq_true_eq]
    constructor
    · rintro (⟨j, hj, e⟩ | e)
      · exact ⟨j, by omega, e⟩
      · exact ⟨N, by omega, e⟩
    · rintro ⟨j, hj, e⟩
      by_cases h : j = N
      · subst h; exact Or.inr e
      · exact Or.inl ⟨j, by omega, e⟩
theorem l_Model_leave1 {cD sD : Nat → Nat → Nat} (G : mz_G) (n : Nat) (f : mz_H) {K ln d N i left : Nat} {t p br u a : Int32} {S W r : Nat → Nat} {s : Nat → Int32} {w3 w4 : Option Value} (post : Option Value → Nat → mz_H → Prop) (e158 : f 158 = mo t K ln p br u a) (h : MP f K ln S W cD sD) (e162 : f 162 = aS 200 s) (hv : rwR s N K r) (hd : d < 8) (hi : i < S d) (hN : N ≤ 200)
    (hend : mz_X G mk_P 11 false b_Model_leave 9 none (r_Model_leave 0 0) post (fun _ _ _ => False) 64 [some (.ref 158), some (.int (nI d)), some (.int (nI N)), w3, w4, some (.int (nI left)), some (.int (nI i)), some (.int (mk_b (goN r (cD d i) N = true))), some (.int (nI N))] [] 0 0 n f) :
    ∀ m k, k + m = N → mz_X G mk_P 11 false b_Model_leave 9 none (r_Model_leave 0 0) post (fun _ _ _ => False) 23 [some (.ref 158), some (.int (nI d)), some (.int (nI N)), w3, w4, some (.int (nI left)), some (.int (nI i)), some (.int (mk_b (goN r (cD d i) k = true))), some (.int (nI k))] [] 0 0 n f := by
  have hK := h.1.2.1
  have hc := MP_cd h hd hi
  intro m
  induction m with
  | zero =>
    intro k hk
    have : k = N := by omega
    subst this
    refine mz_go [23, 64] 30 ?_
    simp only [mz_run, ev_0, ev_1, ev_2, ev_3, ev_4, ev_5, ev_6, ev_7, ev_8, ev_9, ev_10, ev_11, ev_12, ev_13, ev_14, ev_15, ev_16, ev_17, ev_18, ev_19, ev_20, ev_21, ev_22, ev_23, ev_24, ev_25, ev_26, ev_27, ev_28, ev_29, ev_30, ev_31, ev_32, ev_33, ev_34, ev_35, ev_36, ev_37, ev_38, ev_39, ev_40, ev_41, ev_42, ev_43, ev_44, ev_45, ev_46, ev_47, ev_48, ev_49, ev_50, ev_51, ev_52, ev_53, ev_54, ev_55, ev_56, ev_57, ev_58, ev_59, ev_60, ev_61, ev_62, ev_63, ev_64, ev_65, ev_66, ev_67, ev_68, ev_69, ev_70, ev_71, ev_72, ev_73, ev_74, ev_75, ev_76, ev_77, ev_78, ev_79, ev_80, ev_81, ev_82, ev_83, mk_lit, mk_fin, mk_cat, mk_fit, mk_nar, mk_fld, mk_cls, mk_ty, mk_isr, List.mem_cons, List.not_mem_nil, or_false, or_true, false_or, true_or, Nat.reduceEqDiff, Nat.reduceAdd, Nat.reduceSub, Nat.reduceLT, Nat.reduceLeDiff, reduceIte, if_true, if_false, List.getElem?_cons_zero, List.getElem?_cons_succ, List.set_cons_zero, List.set_cons_succ, List.length_cons, List.length_nil, mz_s1, mz_s2, mz_cl, true_and, and_true, false_and, and_false, List.append_nil, mk_b0, mk_b1, mk_b2, mk_bn, Value.int.injEq, Option.toList_some, Option.toList_none, List.cons_append, List.nil_append, Classical.not_not, Option.some.injEq, reduceCtorEq, ne_eq, not_true_eq_false, not_false_eq_true, false_implies, true_implies, d_Model_leave, j_Model_leave, nF_11, nI_leI (show k < 2 ^ 31 by omega) (show k < 2 ^ 31 by omega), Nat.le_refl]
    exact hend
  | succ m ih =>
    intro k hk
    have ihk := ih (k + 1) (by omega)
    obtain ⟨hrk, erk⟩ := hv k (by omega)
    by_cases h1 : goN r (cD d i) k = true
    · rw [mk_b_t (show goN r (cD d i) (k + 1) = true by simp [goN, h1])] at ihk
      refine mz_go [23] 30 ?_
      simp only [mz_run, ev_0, ev_1, ev_2, ev_3, ev_4, ev_5, ev_6, ev_7, ev_8, ev_9, ev_10, ev_11, ev_12, ev_13, ev_14, ev_15, ev_16, ev_17, ev_18, ev_19, ev_20, ev_21, ev_22, ev_23, ev_24, ev_25, ev_26, ev_27, ev_28, ev_29, ev_30, ev_31, ev_32, ev_33, ev_34, ev_35, ev_36, ev_37, ev_38, ev_39, ev_40, ev_41, ev_42, ev_43, ev_44, ev_45, ev_46, ev_47, ev_48, ev_49, ev_50, ev_51, ev_52, ev_53, ev_54, ev_55, ev_56, ev_57, ev_58, ev_59, ev_60, ev_61, ev_62, ev_63, ev_64, ev_65, ev_66, ev_67, ev_68, ev_69, ev_70, ev_71, ev_72, ev_73, ev_74, ev_75, ev_76, ev_77, ev_78, ev_79, ev_80, ev_81, ev_82, ev_83, mk_lit, mk_fin, mk_cat, mk_fit, mk_nar, mk_fld, mk_cls, mk_ty, mk_isr, List.mem_cons, List.not_mem_nil, or_false, or_true, false_or, true_or, Nat.reduceEqDiff, Nat.reduceAdd, Nat.reduceSub, Nat.reduceLT, Nat.reduceLeDiff, reduceIte, if_true, if_false, List.getElem?_cons_zero, List.getElem?_cons_succ, List.set_cons_zero, List.set_cons_succ, List.length_cons, List.length_nil, mz_s1, mz_s2, mz_cl, true_and, and_true, false_and, and_false, List.append_nil, mk_b0, mk_b1, mk_b2, mk_bn, Value.int.injEq, Option.toList_some, Option.toList_none, List.cons_append, List.nil_append, Classical.not_not, Option.some.injEq, reduceCtorEq, ne_eq, not_true_eq_false, not_false_eq_true, false_implies, true_implies, d_Model_leave, j_Model_leave, nF_11, nI_leI (show N < 2 ^ 31 by omega) (show k < 2 ^ 31 by omega), show ¬ N ≤ k by omega, eq_true h1, nI_add]
      exact ihk
    · refine mz_go [45] 30 ?_
      simp only [mz_run, ev_0, ev_1, ev_2, ev_3, ev_4, ev_5, ev_6, ev_7, ev_8, ev_9, ev_10, ev_11, ev_12, ev_13, ev_14, ev_15, ev_16, ev_17, ev_18, ev_19, ev_20, ev_21, ev_22, ev_23, ev_24, ev_25, ev_26, ev_27, ev_28, ev_29, ev_30, ev_31, ev_32, ev_33, ev_34, ev_35, ev_36, ev_37, ev_38, ev_39, ev_40, ev_41, ev_42, ev_43, ev_44, ev_45, ev_46, ev_47, ev_48, ev_49, ev_50, ev_51, ev_52, ev_53, ev_54, ev_55, ev_56, ev_57, ev_58, ev_59, ev_60, ev_61, ev_62, ev_63, ev_64, ev_65, ev_66, ev_67, ev_68, ev_69, ev_70, ev_71, ev_72, ev_73, ev_74, ev_75, ev_76, ev_77, ev_78, ev_79, ev_80, ev_81, ev_82, ev_83, mk_lit, mk_fin, mk_cat, mk_fit, mk_nar, mk_fld, mk_cls, mk_ty, mk_isr, List.mem_cons, List.not_mem_nil, or_false, or_true, false_or, true_or, Nat.reduceEqDiff, Nat.reduceAdd, Nat.reduceSub, Nat.reduceLT, Nat.reduceLeDiff, reduceIte, if_true, if_false, List.getElem?_cons_zero, List.getElem?_cons_succ, List.set_cons_zero, List.set_cons_succ, List.length_cons, List.length_nil, mz_s1, mz_s2, mz_cl, true_and, and_true, false_and, and_false, List.append_nil, mk_b0, mk_b1, mk_b2, mk_bn, Value.int.injEq, Option.toList_some, Option.toList_none, List.cons_append, List.nil_append, Classical.not_not, Option.some.injEq, reduceCtorEq, ne_eq, not_true_eq_false, not_false_eq_true, false_implies, true_implies, d_Model_leave, j_Model_leave, nF_11, nI_leI (show N < 2 ^ 31 by omega) (show k < 2 ^ 31 by omega), show ¬ N ≤ k by omega, eq_false h1, e158, e162, mo, vp_in_nI (show k < 200 by omega) (show 200 < 2 ^ 31 by decide), nI_clamp (show k < 2 ^ 31 by omega), erk]
      refine mz_callV (by simp only [d_Model_leave, Nat.reduceAdd]) g_11_98 rfl (fun _ _ h => h) (c_Model_cardAt G n f h hd hi) e158 rfl rfl (by decide) (Nat.le_of_ble_eq_true rfl) rfl ?_; intro v_ n_ f_ h_; obtain ⟨rfl, hn_, hf_⟩ := h_; replace hn_ := hn_.symm; replace hf_ := hf_.symm; subst hn_; subst hf_
      by_cases h2 : r k = cD d i
      · rw [mk_b_t (show goN r (cD d i) (k + 1) = true by simp [goN, h2])] at ihk
        refine mz_go [23] 30 ?_
        simp only [mz_run, ev_0, ev_1, ev_2, ev_3, ev_4, ev_5, ev_6, ev_7, ev_8, ev_9, ev_10, ev_11, ev_12, ev_13, ev_14, ev_15, ev_16, ev_17, ev_18, ev_19, ev_20, ev_21, ev_22, ev_23, ev_24, ev_25, ev_26, ev_27, ev_28, ev_29, ev_30, ev_31, ev_32, ev_33, ev_34, ev_35, ev_36, ev_37, ev_38, ev_39, ev_40, ev_41, ev_42, ev_43, ev_44, ev_45, ev_46, ev_47, ev_48, ev_49, ev_50, ev_51, ev_52, ev_53, ev_54, ev_55, ev_56, ev_57, ev_58, ev_59, ev_60, ev_61, ev_62, ev_63, ev_64, ev_65, ev_66, ev_67, ev_68, ev_69, ev_70, ev_71, ev_72, ev_73, ev_74, ev_75, ev_76, ev_77, ev_78, ev_79, ev_80, ev_81, ev_82, ev_83, mk_lit, mk_fin, mk_cat, mk_fit, mk_nar, mk_fld, mk_cls, mk_ty, mk_isr, List.mem_cons, List.not_mem_nil, or_false, or_true, false_or, true_or, Nat.reduceEqDiff, Nat.reduceAdd, Nat.reduceSub, Nat.reduceLT, Nat.reduceLeDiff, reduceIte, if_true, if_false, List.getElem?_cons_zero, List.getElem?_cons_succ, List.set_cons_zero, List.set_cons_succ, List.length_cons, List.length_nil, mz_s1, mz_s2, mz_cl, true_and, and_true, false_and, and_false, List.append_nil, mk_b0, mk_b1, mk_b2, mk_bn, Value.int.injEq, Option.toList_some, Option.toList_none, List.cons_append, List.nil_append, Classical.not_not, Option.some.injEq, reduceCtorEq, ne_eq, not_true_eq_false, not_false_eq_true, false_implies, true_implies, d_Model_leave, j_Model_leave, nF_11, h2, nI_add]
        exact ihk
      · rw [mk_b_f (show ¬ goN r (cD d i) (k + 1) = true by simp [goN, h1, h2])] at ihk
        have h2' : ¬ nI (r k) = nI (cD d i) := fun q => h2 ((nI_eq (by omega) (by omega)).mp q)
        refine mz_go [23] 30 ?_
        simp only [mz_run, ev_0, ev_1, ev_2, ev_3, ev_4, ev_5, ev_6, ev_7, ev_8, ev_9, ev_10, ev_11, ev_12, ev_13, ev_14, ev_15, ev_16, ev_17, ev_18, ev_19, ev_20, ev_21, ev_22, ev_23, ev_24, ev_25, ev_26, ev_27, ev_28, ev_29, ev_30, ev_31, ev_32, ev_33, ev_34, ev_35, ev_36, ev_37, ev_38, ev_39, ev_40, ev_41, ev_42, ev_43, ev_44, ev_45, ev_46, ev_47, ev_48, ev_49, ev_50, ev_51, ev_52, ev_53, ev_54, ev_55, ev_56, ev_57, ev_58, ev_59, ev_60, ev_61, ev_62, ev_63, ev_64, ev_65, ev_66, ev_67, ev_68, ev_69, ev_70, ev_71, ev_72, ev_73, ev_74, ev_75, ev_76, ev_77, ev_78, ev_79, ev_80, ev_81, ev_82, ev_83, mk_lit, mk_fin, mk_cat, mk_fit, mk_nar, mk_fld, mk_cls, mk_ty, mk_isr, List.mem_cons, List.not_mem_nil, or_false, or_true, false_or, true_or, Nat.reduceEqDiff, Nat.reduceAdd, Nat.reduceSub, Nat.reduceLT, Nat.reduceLeDiff, reduceIte, if_true, if_false, List.getElem?_cons_zero, List.getElem?_cons_succ, List.set_cons_zero, List.set_cons_succ, List.length_cons, List.length_nil, mz_s1, mz_s2, mz_cl, true_and, and_true, false_and, and_false, List.append_nil, mk_b0, mk_b1, mk_b2, mk_bn, Value.int.injEq, Option.toList_some, Option.toList_none, List.cons_append, List.nil_append, Classical.not_not, Option.some.injEq, reduceCtorEq, ne_eq, not_true_eq_false, not_false_eq_true, false_implies, true_implies, d_Model_leave, j_Model_leave, nF_11, eq_false h2', nI_add]
        exact ihk
def lvQ (f : mz_H) (n K ln d N : Nat) (S W : Nat → Nat) (cD sD : Nat → Nat → Nat) (r : Nat → Nat) (v : Option Value) (n' : Nat) (f' : mz_H) : Prop := v = none ∧ n' = n ∧ ∃ left ρ π, left ≤ S d ∧ MP f' K ln (va_up S d left) W (va_up cD d ρ) sD ∧ f' 162 = f 162 ∧ f' 158 = f 158 ∧ (∀ m, m < left → ρ m = cD d (π m)) ∧ enP id0 (fun x => x < S d ∧ ¬ goN r (cD d x) N = true) left π ∧ FrC f f'
/-- leave: the way back -/
theorem l_Model_leave3 {cD sD : Nat → Nat → Nat} (G : mz_G) (n : Nat) (f : mz_H) {K ln d N left : Nat} {t p br u a : Int32} {S W ρ : Nat → Nat} {r : Nat → Int32} {w3 w4 w7 w8 : Option Value} (post : Option Value → Nat → mz_H → Prop) (e158 : f 158 = mo t K ln p br u a) (h : MP f K ln (va_up S d left) W cD sD) (e163 : f 163 = aS 200 r) (hv : rwR r left K ρ) (hd : d < 8)
    (hend : ∀ f', MP f' K ln (va_up S d left) W (va_up cD d ρ) sD → (∀ q, q ≠ 160 → f' q = f q) → post none n f') :
    ∀ m k g1, k + m = left → bkR g1 K d k (va_up S d left) cD ρ → mz_X G mk_P 11 false b_Model_leave 9 none (r_Model_leave 0 0) post (fun _ _ _ => False) 104 [some (.ref 158), some (.int (nI d)), some (.int (nI N)), w3, w4, some (.int (nI left)), some (.int (nI k)), w7, w8] [] 0 0 n (mz_u f 160 (aS 1600 g1)) := by
  have hK := h.1.2.1
  have hl := MP_sz h hd
  have hS : va_up S d left d = left := va_up_s
  rw [hS] at hl
  intro m
  induction m with
  | zero =>
    intro k g1 hk hg
    refine mz_go [104] 30 ?_
    simp only [mz_run, ev_0, ev_1, ev_2, ev_3, ev_4, ev_5, ev_6, ev_7, ev_8, ev_9, ev_10, ev_11, ev_12, ev_13, ev_14, ev_15, ev_16, ev_17, ev_18, ev_19, ev_20, ev_21, ev_22, ev_23, ev_24, ev_25, ev_26, ev_27, ev_28, ev_29, ev_30, ev_31, ev_32, ev_33, ev_34, ev_35, ev_36, ev_37, ev_38, ev_39, ev_40, ev_41, ev_42, ev_43, ev_44, ev_45, ev_46, ev_47, ev_48, ev_49, ev_50, ev_51, ev_52, ev_53, ev_54, ev_55, ev_56, ev_57, ev_58, ev_59, ev_60, ev_61, ev_62, ev_63, ev_64, ev_65, ev_66, ev_67, ev_68, ev_69, ev_70, ev_71, ev_72, ev_73, ev_74, ev_75, ev_76, ev_77, ev_78, ev_79, ev_80, ev_81, ev_82, ev_83, mk_lit, mk_fin, mk_cat, mk_fit, mk_nar, mk_fld, mk_cls, mk_ty, mk_isr, List.mem_cons, List.not_mem_nil, or_false, or_true, false_or, true_or, Nat.reduceEqDiff, Nat.reduceAdd, Nat.reduceSub, Nat.reduceLT, Nat.reduceLeDiff, reduceIte, if_true, if_false, List.getElem?_cons_zero, List.getElem?_cons_succ, List.set_cons_zero, List.set_cons_succ, List.length_cons, List.length_nil, mz_s1, mz_s2, mz_cl, true_and, and_true, false_and, and_false, List.append_nil, mk_b0, mk_b1, mk_b2, mk_bn, Value.int.injEq, Option.toList_some, Option.toList_none, List.cons_append, List.nil_append, Classical.not_not, Option.some.injEq, reduceCtorEq, ne_eq, not_true_eq_false, not_false_eq_true, false_implies, true_implies, d_Model_leave, j_Model_leave, nF_11, nI_leI (show left < 2 ^ 31 by omega) (show k < 2 ^ 31 by omega), show left ≤ k by omega]
    exact hend _ (bkR_e hg (by rw [hS]; omega) h) (fun q hq => mz_u_n hq)
  | succ m ih =>
    intro k g1 hk hg
    obtain ⟨hc', ec⟩ := hv k (by omega)
    refine mz_go [104] 30 ?_
    simp only [mz_run, ev_0, ev_1, ev_2, ev_3, ev_4, ev_5, ev_6, ev_7, ev_8, ev_9, ev_10, ev_11, ev_12, ev_13, ev_14, ev_15, ev_16, ev_17, ev_18, ev_19, ev_20, ev_21, ev_22, ev_23, ev_24, ev_25, ev_26, ev_27, ev_28, ev_29, ev_30, ev_31, ev_32, ev_33, ev_34, ev_35, ev_36, ev_37, ev_38, ev_39, ev_40, ev_41, ev_42, ev_43, ev_44, ev_45, ev_46, ev_47, ev_48, ev_49, ev_50, ev_51, ev_52, ev_53, ev_54, ev_55, ev_56, ev_57, ev_58, ev_59, ev_60, ev_61, ev_62, ev_63, ev_64, ev_65, ev_66, ev_67, ev_68, ev_69, ev_70, ev_71, ev_72, ev_73, ev_74, ev_75, ev_76, ev_77, ev_78, ev_79, ev_80, ev_81, ev_82, ev_83, mk_lit, mk_fin, mk_cat, mk_fit, mk_nar, mk_fld, mk_cls, mk_ty, mk_isr, List.mem_cons, List.not_mem_nil, or_false, or_true, false_or, true_or, Nat.reduceEqDiff, Nat.reduceAdd, Nat.reduceSub, Nat.reduceLT, Nat.reduceLeDiff, reduceIte, if_true, if_false, List.getElem?_cons_zero, List.getElem?_cons_succ, List.set_cons_zero, List.set_cons_succ, List.length_cons, List.length_nil, mz_s1, mz_s2, mz_cl, true_and, and_true, false_and, and_false, List.append_nil, mk_b0, mk_b1, mk_b2, mk_bn, Value.int.injEq, Option.toList_some, Option.toList_none, List.cons_append, List.nil_append, Classical.not_not, Option.some.injEq, reduceCtorEq, ne_eq, not_true_eq_false, not_false_eq_true, false_implies, true_implies, d_Model_leave, j_Model_leave, nF_11, nI_leI (show left < 2 ^ 31 by omega) (show k < 2 ^ 31 by omega), show ¬ left ≤ k by omega, mz_u_n (show 158 ≠ 160 by decide), mz_u_n (show 163 ≠ 160 by decide), e158, e163, mo, mz_u_s, mz_uu, pk_mul, nI_add, vp_in_nI (show 200 * d + k < 1600 by omega) (show 1600 < 2 ^ 31 by decide), nI_clamp (show 200 * d + k < 2 ^ 31 by omega), vp_in_nI (show k < 200 by omega) (show 200 < 2 ^ 31 by decide), nI_clamp (show k < 2 ^ 31 by omega), ec, n2sn _ (show ρ k < 200 by omega)]
    exact ih (k + 1) _ (by omega) (bkR_s hg (fun d hd => MP_sz h hd) hd (by rw [hS]; omega) hc')
theorem l_Model_leave2 {cD sD : Nat → Nat → Nat} (G : mz_G) (n : Nat) (f : mz_H) {K ln d N : Nat} {t p br u a : Int32} {S W r : Nat → Nat} {s : Nat → Int32} {w3 : Option Value} {v4 : Int32} (e158 : f 158 = mo t K ln p br u a) (h : MP f K ln S W cD sD) (e162 : f 162 = aS 200 s) (hv : rwR s N K r) (hd : d < 8) (hN : N ≤ 200) :
    ∀ m i left q ρ π w7 w8, i + m = S d → left ≤ i → rwR q left K ρ → (∀ m, m < left → ρ m = cD d (π m)) → enP id0 (fun x => x < i ∧ ¬ goN r (cD d x) N = true) left π → mz_X G mk_P 11 false b_Model_leave 9 none (r_Model_leave 0 0) (lvQ f n K ln d N S W cD sD r) (fun _ _ _ => False) 6 [some (.ref 158), some (.int (nI d)), some (.int (nI N)), w3, some (.int v4), some (.int (nI left)), some (.int (nI i)), w7, w8] [] 0 0 n (mz_u f 163 (aS 200 q)) := by
  have hK := h.1.2.1
  have hsz := MP_sz h hd
  have e161 := h.2.1.1
  obtain ⟨g, e160, hg⟩ := h.2.1.2.2
  intro m
  induction m with
  | zero =>
    intro i left q ρ π w7 w8 hi hl hq h2 h3
    have : i = S d := by omega
    subst this
    refine mz_go [6, 104] 40 ?_
    simp only [mz_run, ev_0, ev_1, ev_2, ev_3, ev_4, ev_5, ev_6, ev_7, ev_8, ev_9, ev_10, ev_11, ev_12, ev_13, ev_14, ev_15, ev_16, ev_17, ev_18, ev_19, ev_20, ev_21, ev_22, ev_23, ev_24, ev_25, ev_26, ev_27, ev_28, ev_29, ev_30, ev_31, ev_32, ev_33, ev_34, ev_35, ev_36, ev_37, ev_38, ev_39, ev_40, ev_41, ev_42, ev_43, ev_44, ev_45, ev_46, ev_47, ev_48, ev_49, ev_50, ev_51, ev_52, ev_53, ev_54, ev_55, ev_56, ev_57, ev_58, ev_59, ev_60, ev_61, ev_62, ev_63, ev_64, ev_65, ev_66, ev_67, ev_68, ev_69, ev_70, ev_71, ev_72, ev_73, ev_74, ev_75, ev_76, ev_77, ev_78, ev_79, ev_80, ev_81, ev_82, ev_83, mk_lit, mk_fin, mk_cat, mk_fit, mk_nar, mk_fld, mk_cls, mk_ty, mk_isr, List.mem_cons, List.not_mem_nil, or_false, or_true, false_or, true_or, Nat.reduceEqDiff, Nat.reduceAdd, Nat.reduceSub, Nat.reduceLT, Nat.reduceLeDiff, reduceIte, if_true, if_false, List.getElem?_cons_zero, List.getElem?_cons_succ, List.set_cons_zero, List.set_cons_succ, List.length_cons, List.length_nil, mz_s1, mz_s2, mz_cl, true_and, and_true, false_and, and_false, List.append_nil, mk_b0, mk_b1, mk_b2, mk_bn, Value.int.injEq, Option.toList_some, Option.toList_none, List.cons_append, List.nil_append, Classical.not_not, Option.some.injEq, reduceCtorEq, ne_eq, not_true_eq_false, not_false_eq_true, false_implies, true_implies, d_Model_leave, j_Model_leave, nF_11, mz_u_n (show 158 ≠ 163 by decide), mz_u_n (show 161 ≠ 163 by decide), e158, e161, mo, vp_in_nI (show d < 8 by omega) (show 8 < 2 ^ 31 by decide), nI_clamp (show d < 2 ^ 31 by omega), nI_leI (show S d < 2 ^ 31 by omega) (show S d < 2 ^ 31 by omega), Nat.le_refl, upd_nI]
    have hM : MP (mz_u (mz_u f 163 (aS 200 q)) 161 (aI 8 (fun j => nI (va_up S d left j)))) K ln (va_up S d left) W cD sD := by
      refine MP_dk (MP_163 h q) (fun q z1 z2 => mz_u_n z2) ⟨mz_u_s _ _ _, fun d' hd' => ?_, g, (mz_u_n (by decide)).trans ((mz_u_n (by decide)).trans e160), fun d' j hd' hj => ?_⟩
      · by_cases e : d' = d
        · subst e; rw [va_up_s]; omega
        · rw [va_up_n e]; exact MP_sz h hd'
      · by_cases e : d' = d
        · subst e; rw [va_up_s] at hj; exact hg d' j hd' (by omega)
        · rw [va_up_n e] at hj; exact hg d' j hd' hj
    have w := l_Model_leave3 G n _ (N := N) (w3 := w3) (w4 := some (.int v4)) (w7 := w7) (w8 := w8) (lvQ f n K ln d N S W cD sD r) ((mz_u_n (by decide)).trans ((mz_u_n (by decide)).trans e158)) hM ((mz_u_n (by decide)).trans (mz_u_s _ _ _)) hq hd (fun f' hP hQ => ⟨rfl, rfl, left, ρ, π, hl, hP, by rw [hQ _ (by decide), mz_u_n (by decide), mz_u_n (by decide)], by rw [hQ _ (by decide), mz_u_n (by decide), mz_u_n (by decide)], h2, h3, fun z hz => by rw [hQ z (by omega), mz_u_n (by omega), mz_u_n (by omega)]⟩) left 0 g (by omega) (bkR_0 (fun d' j hd' hj => by
      by_cases e : d' = d
      · subst e; rw [va_up_s] at hj; exact hg d' j hd' (by omega)
      · rw [va_up_n e] at hj; exact hg d' j hd' hj))
    rw [mz_ui (show _ = aS 1600 g from (mz_u_n (by decide)).trans ((mz_u_n (by decide)).trans e160))] at w
    exact w
  | succ m ih =>
    intro i left q ρ π w7 w8 hi hl hq h2 h3
    have h' := MP_163 h q
    have e158' : (mz_u f 163 (aS 200 q)) 158 = mo t K ln p br u a := (mz_u_n (by decide)).trans e158
    have e162' : (mz_u f 163 (aS 200 q)) 162 = aS 200 s := (mz_u_n (by decide)).trans e162
    have hlt : i < S d := by omega
    have hc := MP_cd h hd hlt
    refine mz_go [23] 40 ?_
    simp only [mz_run, ev_0, ev_1, ev_2, ev_3, ev_4, ev_5, ev_6, ev_7, ev_8, ev_9, ev_10, ev_11, ev_12, ev_13, ev_14, ev_15, ev_16, ev_17, ev_18, ev_19, ev_20, ev_21, ev_22, ev_23, ev_24, ev_25, ev_26, ev_27, ev_28, ev_29, ev_30, ev_31, ev_32, ev_33, ev_34, ev_35, ev_36, ev_37, ev_38, ev_39, ev_40, ev_41, ev_42, ev_43, ev_44, ev_45, ev_46, ev_47, ev_48, ev_49, ev_50, ev_51, ev_52, ev_53, ev_54, ev_55, ev_56, ev_57, ev_58, ev_59, ev_60, ev_61, ev_62, ev_63, ev_64, ev_65, ev_66, ev_67, ev_68, ev_69, ev_70, ev_71, ev_72, ev_73, ev_74, ev_75, ev_76, ev_77, ev_78, ev_79, ev_80, ev_81, ev_82, ev_83, mk_lit, mk_fin, mk_cat, mk_fit, mk_nar, mk_fld, mk_cls, mk_ty, mk_isr, List.mem_cons, List.not_mem_nil, or_false, or_true, false_or, true_or, Nat.reduceEqDiff, Nat.reduceAdd, Nat.reduceSub, Nat.reduceLT, Nat.reduceLeDiff, reduceIte, if_true, if_false, List.getElem?_cons_zero, List.getElem?_cons_succ, List.set_cons_zero, List.set_cons_succ, List.length_cons, List.length_nil, mz_s1, mz_s2, mz_cl, true_and, and_true, false_and, and_false, List.append_nil, mk_b0, mk_b1, mk_b2, mk_bn, Value.int.injEq, Option.toList_some, Option.toList_none, List.cons_append, List.nil_append, Classical.not_not, Option.some.injEq, reduceCtorEq, ne_eq, not_true_eq_false, not_false_eq_true, false_implies, true_implies, d_Model_leave, j_Model_leave, nF_11, mz_u_n (show 158 ≠ 163 by decide), mz_u_n (show 161 ≠ 163 by decide), e158, e161, mo, vp_in_nI (show d < 8 by omega) (show 8 < 2 ^ 31 by decide), nI_clamp (show d < 2 ^ 31 by omega), nI_leI (show S d < 2 ^ 31 by omega) (show i < 2 ^ 31 by omega), show ¬ S d ≤ i by omega]
    refine l_Model_leave1 G n _ (left := left) (w3 := w3) (w4 := some (.int v4)) _ e158' h' e162' hv hd hlt hN ?_ N 0 (by omega)
    by_cases hgo : goN r (cD d i) N = true
    · refine mz_go [6] 40 ?_
      simp only [mz_run, ev_0, ev_1, ev_2, ev_3, ev_4, ev_5, ev_6, ev_7, ev_8, ev_9, ev_10, ev_11, ev_12, ev_13, ev_14, ev_15, ev_16, ev_17, ev_18, ev_19, ev_20, ev_21, ev_22, ev_23, ev_24, ev_25, ev_26, ev_27, ev_28, ev_29, ev_30, ev_31, ev_32, ev_33, ev_34, ev_35, ev_36, ev_37, ev_38, ev_39, ev_40, ev_41, ev_42, ev_43, ev_44, ev_45, ev_46, ev_47, ev_48, ev_49, ev_50, ev_51, ev_52, ev_53, ev_54, ev_55, ev_56, ev_57, ev_58, ev_59, ev_60, ev_61, ev_62, ev_63, ev_64, ev_65, ev_66, ev_67, ev_68, ev_69, ev_70, ev_71, ev_72, ev_73, ev_74, ev_75, ev_76, ev_77, ev_78, ev_79, ev_80, ev_81, ev_82, ev_83, mk_lit, mk_fin, mk_cat, mk_fit, mk_nar, mk_fld, mk_cls, mk_ty, mk_isr, List.mem_cons, List.not_mem_nil, or_false, or_true, false_or, true_or, Nat.reduceEqDiff, Nat.reduceAdd, Nat.reduceSub, Nat.reduceLT, Nat.reduceLeDiff, reduceIte, if_true, if_false, List.getElem?_cons_zero, List.getElem?_cons_succ, List.set_cons_zero, List.set_cons_succ, List.length_cons, List.length_nil, mz_s1, mz_s2, mz_cl, true_and, and_true, false_and, and_false, List.append_nil, mk_b0, mk_b1, mk_b2, mk_bn, Value.int.injEq, Option.toList_some, Option.toList_none, List.cons_append, List.nil_append, Classical.not_not, Option.some.injEq, reduceCtorEq, ne_eq, not_true_eq_false, not_false_eq_true, false_implies, true_implies, d_Model_leave, j_Model_leave, nF_11, eq_true hgo, nI_add]
      refine ih (i + 1) left q ρ π _ _ (by omega) (by omega) hq h2 (enP_iff h3 (fun x => ?_))
      constructor
      · rintro ⟨z1, z2⟩; exact ⟨by omega, z2⟩
      · rintro ⟨z1, z2⟩
        by_cases e : x = i
        · subst e; exact absurd hgo z2
        · exact ⟨by omega, z2⟩
    · refine mz_go [79] 40 ?_
      simp only [mz_run, ev_0, ev_1, ev_2, ev_3, ev_4, ev_5, ev_6, ev_7, ev_8, ev_9, ev_10, ev_11, ev_12, ev_13, ev_14, ev_15, ev_16, ev_17, ev_18, ev_19, ev_20, ev_21, ev_22, ev_23, ev_24, ev_25, ev_26, ev_27, ev_28, ev_29, ev_30, ev_31, ev_32, ev_33, ev_34, ev_35, ev_36, ev_37, ev_38, ev_39, ev_40, ev_41, ev_42, ev_43, ev_44, ev_45, ev_46, ev_47, ev_48, ev_49, ev_50, ev_51, ev_52, ev_53, ev_54, ev_55, ev_56, ev_57, ev_58, ev_59, ev_60, ev_61, ev_62, ev_63, ev_64, ev_65, ev_66, ev_67, ev_68, ev_69, ev_70, ev_71, ev_72, ev_73, ev_74, ev_75, ev_76, ev_77, ev_78, ev_79, ev_80, ev_81, ev_82, ev_83, mk_lit, mk_fin, mk_cat, mk_fit, mk_nar, mk_fld, mk_cls, mk_ty, mk_isr, List.mem_cons, List.not_mem_nil, or_false, or_true, false_or, true_or, Nat.reduceEqDiff, Nat.reduceAdd, Nat.reduceSub, Nat.reduceLT, Nat.reduceLeDiff, reduceIte, if_true, if_false, List.getElem?_cons_zero, List.getElem?_cons_succ, List.set_cons_zero, List.set_cons_succ, List.length_cons, List.length_nil, mz_s1, mz_s2, mz_cl, true_and, and_true, false_and, and_false, List.append_nil, mk_b0, mk_b1, mk_b2, mk_bn, Value.int.injEq, Option.toList_some, Option.toList_none, List.cons_append, List.nil_append, Classical.not_not, Option.some.injEq, reduceCtorEq, ne_eq, not_true_eq_false, not_false_eq_true, false_implies, true_implies, d_Model_leave, j_Model_leave, nF_11, eq_false hgo, mz_u_n (show 158 ≠ 163 by decide), e158, mo]
      refine mz_callV (by simp only [d_Model_leave, Nat.reduceAdd]) g_11_98 rfl (fun _ _ h => h) (c_Model_cardAt G n _ h' hd hlt) e158' rfl rfl (by decide) (Nat.le_of_ble_eq_true rfl) rfl ?_; intro v_ n_ f_ h_; obtain ⟨rfl, hn_, hf_⟩ := h_; replace hn_ := hn_.symm; replace hf_ := hf_.symm; subst hn_; subst hf_
      refine mz_go [6] 40 ?_
      simp only [mz_run, ev_0, ev_1, ev_2, ev_3, ev_4, ev_5, ev_6, ev_7, ev_8, ev_9, ev_10, ev_11, ev_12, ev_13, ev_14, ev_15, ev_16, ev_17, ev_18, ev_19, ev_20, ev_21, ev_22, ev_23, ev_24, ev_25, ev_26, ev_27, ev_28, ev_29, ev_30, ev_31, ev_32, ev_33, ev_34, ev_35, ev_36, ev_37, ev_38, ev_39, ev_40, ev_41, ev_42, ev_43, ev_44, ev_45, ev_46, ev_47, ev_48, ev_49, ev_50, ev_51, ev_52, ev_53, ev_54, ev_55, ev_56, ev_57, ev_58, ev_59, ev_60, ev_61, ev_62, ev_63, ev_64, ev_65, ev_66, ev_67, ev_68, ev_69, ev_70, ev_71, ev_72, ev_73, ev_74, ev_75, ev_76, ev_77, ev_78, ev_79, ev_80, ev_81, ev_82, ev_83, mk_lit, mk_fin, mk_cat, mk_fit, mk_nar, mk_fld, mk_cls, mk_ty, mk_isr, List.mem_cons, List.not_mem_nil, or_false, or_true, false_or, true_or, Nat.reduceEqDiff, Nat.reduceAdd, Nat.reduceSub, Nat.reduceLT, Nat.reduceLeDiff, reduceIte, if_true, if_false, List.getElem?_cons_zero, List.getElem?_cons_succ, List.set_cons_zero, List.set_cons_succ, List.length_cons, List.length_nil, mz_s1, mz_s2, mz_cl, true_and, and_true, false_and, and_false, List.append_nil, mk_b0, mk_b1, mk_b2, mk_bn, Value.int.injEq, Option.toList_some, Option.toList_none, List.cons_append, List.nil_append, Classical.not_not, Option.some.injEq, reduceCtorEq, ne_eq, not_true_eq_false, not_false_eq_true, false_implies, true_implies, d_Model_leave, j_Model_leave, nF_11, mz_u_s, mz_uu, vp_in_nI (show left < 200 by omega) (show 200 < 2 ^ 31 by decide), nI_clamp (show left < 2 ^ 31 by omega), n2s _ (show cD d i < 200 by omega), n2sn _ (show cD d i < 200 by omega), nI_add]
      refine ih (i + 1) (left + 1) _ (va_up ρ left (cD d i)) (va_up π left i) _ _ (by omega) (by omega) (fun j hj => ?_) (fun j hj => ?_) (enP_iff (enP_app h3 (fun x hx => Or.inr ⟨rfl, hx.1⟩)) (fun x => ?_))
      · by_cases e : j = left
        · subst e; rw [va_up_s]; exact ⟨hc, pk_us⟩
        · rw [va_up_n e, pk_un e]; exact hq j (by omega)
      · by_cases e : j = left
        · subst e; rw [va_up_s, va_up_s]
        · rw [va_up_n e, va_up_n e]; exact h2 j (by omega)
      · constructor
        · rintro (z | rfl)
          · exact ⟨by omega, z.2⟩
          · exact ⟨by omega, hgo⟩
        · rintro ⟨z1, z2⟩
          by_cases e : x = i
          · exact Or.inr e
          · exact Or.inl ⟨by omega, z2⟩
theorem c_Model_leave {cD sD : Nat → Nat → Nat} (G : mz_G) (n : Nat) (f : mz_H) {K ln d N fr to : Nat} {S W r : Nat → Nat} {s : Nat → Int32} (h : MP f K ln S W cD sD) (e162 : f 162 = aS 200 s) (hv : rwR s N K r) (hd : d < 8) (hN : N ≤ 200) : mz_Ct G mk_P y_Model_leave b_Model_leave 9 none (r_Model_leave 0 0) [.ref 158, .int (nI d), .int (nI N), .int (nI fr), .int (nI to)] n f (lvQ f n K ln d N S W cD sD r) := by
  obtain ⟨t, p, br, u, a, e158⟩ := h.1.1
  obtain ⟨q, e163⟩ := h.2.2.2.2.2.1
  refine mk_Ct 11 false [some (.ref 158), some (.int (nI d)), some (.int (nI N)), some (.int (nI fr)), some (.int (nI to)), none, none, none, none] (by decide) rfl (by decide) (Nat.le_of_ble_eq_true rfl) rfl ?_
  refine mz_go [6] 30 ?_
  simp only [mz_run, ev_0, ev_1, ev_2, ev_3, ev_4, ev_5, ev_6, ev_7, ev_8, ev_9, ev_10, ev_11, ev_12, ev_13, ev_14, ev_15, ev_16, ev_17, ev_18, ev_19, ev_20, ev_21, ev_22, ev_23, ev_24, ev_25, ev_26, ev_27, ev_28, ev_29, ev_30, ev_31, ev_32, ev_33, ev_34, ev_35, ev_36, ev_37, ev_38, ev_39, ev_40, ev_41, ev_42, ev_43, ev_44, ev_45, ev_46, ev_47, ev_48, ev_49, ev_50, ev_51, ev_52, ev_53, ev_54, ev_55, ev_56, ev_57, ev_58, ev_59, ev_60, ev_61, ev_62, ev_63, ev_64, ev_65, ev_66, ev_67, ev_68, ev_69, ev_70, ev_71, ev_72, ev_73, ev_74, ev_75, ev_76, ev_77, ev_78, ev_79, ev_80, ev_81, ev_82, ev_83, mk_lit, mk_fin, mk_cat, mk_fit, mk_nar, mk_fld, mk_cls, mk_ty, mk_isr, List.mem_cons, List.not_mem_nil, or_false, or_true, false_or, true_or, Nat.reduceEqDiff, Nat.reduceAdd, Nat.reduceSub, Nat.reduceLT, Nat.reduceLeDiff, reduceIte, if_true, if_false, List.getElem?_cons_zero, List.getElem?_cons_succ, List.set_cons_zero, List.set_cons_succ, List.length_cons, List.length_nil, mz_s1, mz_s2, mz_cl, true_and, and_true, false_and, and_false, List.append_nil, mk_b0, mk_b1, mk_b2, mk_bn, Value.int.injEq, Option.toList_some, Option.toList_none, List.cons_append, List.nil_append, Classical.not_not, Option.some.injEq, reduceCtorEq, ne_eq, not_true_eq_false, not_false_eq_true, false_implies, true_implies, d_Model_leave, j_Model_leave, nF_11]
  have := l_Model_leave2 G n f (w3 := some (.int (nI fr))) (v4 := nI to) e158 h e162 hv hd hN (S d) 0 0 q id id none none (by omega) (by omega) (fun j hj => absurd hj (by omega)) (fun j hj => absurd hj (by omega)) (enP_0 (fun x z => by omega))
  rw [mz_ui e163] at this
  exact this
