theorem mk_arrI (N : Nat) : ∀ cA : ClassId, vp_cell cA (N, .inl (fun _ => nI 0)) = arrV cA N (fun _ => defaultValue .int) := fun _ => rfl
theorem c_Card_init (G : mz_G) (X : mz_E) (n : Nat) (f : mz_H) {a : Nat} (h1 : f a = .inr (2, [.null])) (ha : a < n) (hn : n + 1 ≤ mz_e0) : mz_Ct G X y_Card_init b_Card_init 1 none (r_Card_init 1 16) [.ref a] n f (fun v n' f' => v = none ∧ n' = n + 1 ∧ f' = mz_u (mz_u f n (aI 16 (fun _ => nI 0))) a (.inr (2, [.ref n]))) := by
  refine mk_Ct 2 true [some (.ref a)] (by decide) rfl (by decide) (Nat.le_of_ble_eq_true rfl) rfl ?_
  refine mz_go [1] 4 ?_
  simp only [mz_r0, ev_0, ev_1, ev_2, ev_3, ev_4, ev_5, ev_6, ev_7, ev_8, ev_9, ev_10, ev_11, ev_12, ev_13, ev_14, ev_15, ev_16, ev_17, ev_18, ev_19, ev_20, ev_21, ev_22, ev_23, ev_24, ev_25, ev_26, ev_27, ev_28, ev_29, ev_30, ev_31, ev_32, ev_33, ev_34, ev_35, ev_36, ev_37, ev_38, ev_39, ev_40, ev_41, ev_42, ev_43, ev_44, ev_45, ev_46, ev_47, ev_48, ev_49, ev_50, ev_51, ev_52, ev_53, ev_54, ev_55, ev_56, ev_57, ev_58, ev_59, ev_60, ev_61, ev_62, ev_63, ev_64, ev_65, ev_66, ev_67, ev_68, ev_69, ev_70, ev_71, ev_72, ev_73, ev_74, ev_75, ev_76, ev_77, ev_78, ev_79, ev_80, ev_81, ev_82, ev_83, mk_lit, mk_fin, mk_cat, mk_fit, mk_nar, mk_fld, mk_cls, mk_ty, mk_isr, List.mem_cons, List.not_mem_nil, or_false, or_true, false_or, true_or, Nat.reduceEqDiff, Nat.reduceAdd, Nat.reduceSub, Nat.reduceLT, Nat.reduceLeDiff, ↓reduceIte, if_true, if_false, List.getElem?_cons_zero, List.getElem?_cons_succ, List.set_cons_zero, List.set_cons_succ, List.length_cons, List.length_nil, mz_s1, mz_s2, mz_cl, true_and, and_true, false_and, and_false, List.append_nil, mk_b0, mk_b1, mk_b2, mk_bn, Value.int.injEq, Option.toList_some, Option.toList_none, List.cons_append, List.nil_append, Classical.not_not, Option.some.injEq, reduceCtorEq, ne_eq, not_true_eq_false, not_false_eq_true, false_implies, true_implies, mz_rl d_Card_init_0, nF_2]
  refine mz_objInit (by simp only [d_Card_init]) w_obj_2 (by decide) (by decide) ?_
  refine mz_go [7] 4 ?_
  simp only [mz_r0, ev_0, ev_1, ev_2, ev_3, ev_4, ev_5, ev_6, ev_7, ev_8, ev_9, ev_10, ev_11, ev_12, ev_13, ev_14, ev_15, ev_16, ev_17, ev_18, ev_19, ev_20, ev_21, ev_22, ev_23, ev_24, ev_25, ev_26, ev_27, ev_28, ev_29, ev_30, ev_31, ev_32, ev_33, ev_34, ev_35, ev_36, ev_37, ev_38, ev_39, ev_40, ev_41, ev_42, ev_43, ev_44, ev_45, ev_46, ev_47, ev_48, ev_49, ev_50, ev_51, ev_52, ev_53, ev_54, ev_55, ev_56, ev_57, ev_58, ev_59, ev_60, ev_61, ev_62, ev_63, ev_64, ev_65, ev_66, ev_67, ev_68, ev_69, ev_70, ev_71, ev_72, ev_73, ev_74, ev_75, ev_76, ev_77, ev_78, ev_79, ev_80, ev_81, ev_82, ev_83, mk_lit, mk_fin, mk_cat, mk_fit, mk_nar, mk_fld, mk_cls, mk_ty, mk_isr, List.mem_cons, List.not_mem_nil, or_false, or_true, false_or, true_or, Nat.reduceEqDiff, Nat.reduceAdd, Nat.reduceSub, Nat.reduceLT, Nat.reduceLeDiff, ↓reduceIte, if_true, if_false, List.getElem?_cons_zero, List.getElem?_cons_succ, List.set_cons_zero, List.set_cons_succ, List.length_cons, List.length_nil, mz_s1, mz_s2, mz_cl, true_and, and_true, false_and, and_false, List.append_nil, mk_b0, mk_b1, mk_b2, mk_bn, Value.int.injEq, Option.toList_some, Option.toList_none, List.cons_append, List.nil_append, Classical.not_not, Option.some.injEq, reduceCtorEq, ne_eq, not_true_eq_false, not_false_eq_true, false_implies, true_implies, mz_rl d_Card_init_4, mz_rl d_Card_init_5, nF_2]
  refine mz_newa (at' := .int) (ty := .int) (t := 0) (N := 16) (a0 := (16, .inl (fun _ => nI 0))) (by simp only [d_Card_init]) rfl rfl (fun _ _ => rfl) w_arr_int (mk_arrI 16) (fun _ => rfl) trivial (by decide) (by decide) (by decide) (by decide) (by decide) (by omega) ?_
  refine mz_go [] 4 ?_
  simp only [mz_r0, ev_0, ev_1, ev_2, ev_3, ev_4, ev_5, ev_6, ev_7, ev_8, ev_9, ev_10, ev_11, ev_12, ev_13, ev_14, ev_15, ev_16, ev_17, ev_18, ev_19, ev_20, ev_21, ev_22, ev_23, ev_24, ev_25, ev_26, ev_27, ev_28, ev_29, ev_30, ev_31, ev_32, ev_33, ev_34, ev_35, ev_36, ev_37, ev_38, ev_39, ev_40, ev_41, ev_42, ev_43, ev_44, ev_45, ev_46, ev_47, ev_48, ev_49, ev_50, ev_51, ev_52, ev_53, ev_54, ev_55, ev_56, ev_57, ev_58, ev_59, ev_60, ev_61, ev_62, ev_63, ev_64, ev_65, ev_66, ev_67, ev_68, ev_69, ev_70, ev_71, ev_72, ev_73, ev_74, ev_75, ev_76, ev_77, ev_78, ev_79, ev_80, ev_81, ev_82, ev_83, mk_lit, mk_fin, mk_cat, mk_fit, mk_nar, mk_fld, mk_cls, mk_ty, mk_isr, List.mem_cons, List.not_mem_nil, or_false, or_true, false_or, true_or, Nat.reduceEqDiff, Nat.reduceAdd, Nat.reduceSub, Nat.reduceLT, Nat.reduceLeDiff, ↓reduceIte, if_true, if_false, List.getElem?_cons_zero, List.getElem?_cons_succ, List.set_cons_zero, List.set_cons_succ, List.length_cons, List.length_nil, mz_s1, mz_s2, mz_cl, true_and, and_true, false_and, and_false, List.append_nil, mk_b0, mk_b1, mk_b2, mk_bn, Value.int.injEq, Option.toList_some, Option.toList_none, List.cons_append, List.nil_append, Classical.not_not, Option.some.injEq, reduceCtorEq, ne_eq, not_true_eq_false, not_false_eq_true, false_implies, true_implies, mz_rl d_Card_init_9, mz_rl d_Card_init_12, nF_2, h1, mz_u_n (show a ≠ n by omega), mk_fldF]
/-- what is punched into a card: the jacks' signs, where there are any, up to column k -/
def pnc (g : Nat → Int32) (s : Nat → Nat) (k : Nat) : Nat → Nat := fun j => if j < k ∧ g j ≠ -1 then (g j).toNatClampNeg else s j
theorem tn_sg {x : Int32} (h : x = -1 ∨ ∃ c, sg c ∧ x = nI c) (h2 : x ≠ -1) : sg x.toNatClampNeg ∧ nI x.toNatClampNeg = x := by
  rcases h with h | ⟨c, hc, rfl⟩
  · exact absurd h h2
  · have := sg_lt hc
    rw [nI_clamp (by omega)]
    exact ⟨hc, rfl⟩
theorem l_Reproducer_punchInto (G : mz_G) (X : mz_E) (n : Nat) (f : mz_H) {x : Nat} {cl q : Value} {g : Nat → Int32} {s : Nat → Nat} (h13 : f 13 = .inr (8, [.ref 14])) (h14 : f 14 = .inr (6, [q, .ref 15, cl])) (h15 : f 15 = aI 16 g) (h1 : f (172 + 2 * x) = .inr (2, [.ref (173 + 2 * x)])) (hg : ∀ k, k < 16 → g k = -1 ∨ ∃ c, sg c ∧ g k = nI c) :
    ∀ m k, k + m = 16 → mz_X G X 8 false b_Reproducer_punchInto 3 none (r_Reproducer_punchInto 0 0) (fun v n' f' => v = none ∧ n' = n ∧ f' = mz_u f (173 + 2 * x) (aI 16 (fun j => nI (pnc g s 16 j)))) (fun _ _ _ => False) 2 [some (.ref 13), some (.ref (172 + 2 * x)), some (.int (nI k))] [] 0 0 n (mz_u f (173 + 2 * x) (aI 16 (fun j => nI (pnc g s k j)))) := by
  intro m
  induction m with
  | zero =>
    intro k hk
    have : k = 16 := by omega
    subst this
    refine mz_go [2] 12 ?_
    simp only [mz_r0, ev_0, ev_1, ev_2, ev_3, ev_4, ev_5, ev_6, ev_7, ev_8, ev_9, ev_10, ev_11, ev_12, ev_13, ev_14, ev_15, ev_16, ev_17, ev_18, ev_19, ev_20, ev_21, ev_22, ev_23, ev_24, ev_25, ev_26, ev_27, ev_28, ev_29, ev_30, ev_31, ev_32, ev_33, ev_34, ev_35, ev_36, ev_37, ev_38, ev_39, ev_40, ev_41, ev_42, ev_43, ev_44, ev_45, ev_46, ev_47, ev_48, ev_49, ev_50, ev_51, ev_52, ev_53, ev_54, ev_55, ev_56, ev_57, ev_58, ev_59, ev_60, ev_61, ev_62, ev_63, ev_64, ev_65, ev_66, ev_67, ev_68, ev_69, ev_70, ev_71, ev_72, ev_73, ev_74, ev_75, ev_76, ev_77, ev_78, ev_79, ev_80, ev_81, ev_82, ev_83, mk_lit, mk_fin, mk_cat, mk_fit, mk_nar, mk_fld, mk_cls, mk_ty, mk_isr, List.mem_cons, List.not_mem_nil, or_false, or_true, false_or, true_or, Nat.reduceEqDiff, Nat.reduceAdd, Nat.reduceSub, Nat.reduceLT, Nat.reduceLeDiff, ↓reduceIte, if_true, if_false, List.getElem?_cons_zero, List.getElem?_cons_succ, List.set_cons_zero, List.set_cons_succ, List.length_cons, List.length_nil, mz_s1, mz_s2, mz_cl, true_and, and_true, false_and, and_false, List.append_nil, mk_b0, mk_b1, mk_b2, mk_bn, Value.int.injEq, Option.toList_some, Option.toList_none, List.cons_append, List.nil_append, Classical.not_not, Option.some.injEq, reduceCtorEq, ne_eq, not_true_eq_false, not_false_eq_true, false_implies, true_implies, mz_rl d_Reproducer_punchInto_2, mz_rl d_Reproducer_punchInto_3, mz_rl d_Reproducer_punchInto_5, mz_rl d_Reproducer_punchInto_8, mz_rl d_Reproducer_punchInto_9, mz_rl d_Reproducer_punchInto_12, mz_rl d_Reproducer_punchInto_15, mz_rl d_Reproducer_punchInto_16, mz_rl d_Reproducer_punchInto_17, mz_rl d_Reproducer_punchInto_18, mz_rl d_Reproducer_punchInto_21, mz_rl d_Reproducer_punchInto_22, mz_rl d_Reproducer_punchInto_25, mz_rl d_Reproducer_punchInto_26, mz_rl d_Reproducer_punchInto_27, mz_rl d_Reproducer_punchInto_30, mz_rl d_Reproducer_punchInto_33, mz_rl d_Reproducer_punchInto_34, mz_rl d_Reproducer_punchInto_35, mz_rl d_Reproducer_punchInto_36, mz_rl d_Reproducer_punchInto_39, mz_rl d_Reproducer_punchInto_42, j_Reproducer_punchInto_5, j_Reproducer_punchInto_18, j_Reproducer_punchInto_39, nF_8, mk_le, mk_ti, Int.le_refl]
  | succ m ih =>
    intro k hk
    have hk16 : k < 16 := by omega
    have e := hg k hk16
    refine mz_go [2] 30 ?_
    simp only [mz_r0, ev_0, ev_1, ev_2, ev_3, ev_4, ev_5, ev_6, ev_7, ev_8, ev_9, ev_10, ev_11, ev_12, ev_13, ev_14, ev_15, ev_16, ev_17, ev_18, ev_19, ev_20, ev_21, ev_22, ev_23, ev_24, ev_25, ev_26, ev_27, ev_28, ev_29, ev_30, ev_31, ev_32, ev_33, ev_34, ev_35, ev_36, ev_37, ev_38, ev_39, ev_40, ev_41, ev_42, ev_43, ev_44, ev_45, ev_46, ev_47, ev_48, ev_49, ev_50, ev_51, ev_52, ev_53, ev_54, ev_55, ev_56, ev_57, ev_58, ev_59, ev_60, ev_61, ev_62, ev_63, ev_64, ev_65, ev_66, ev_67, ev_68, ev_69, ev_70, ev_71, ev_72, ev_73, ev_74, ev_75, ev_76, ev_77, ev_78, ev_79, ev_80, ev_81, ev_82, ev_83, mk_lit, mk_fin, mk_cat, mk_fit, mk_nar, mk_fld, mk_cls, mk_ty, mk_isr, List.mem_cons, List.not_mem_nil, or_false, or_true, false_or, true_or, Nat.reduceEqDiff, Nat.reduceAdd, Nat.reduceSub, Nat.reduceLT, Nat.reduceLeDiff, ↓reduceIte, if_true, if_false, List.getElem?_cons_zero, List.getElem?_cons_succ, List.set_cons_zero, List.set_cons_succ, List.length_cons, List.length_nil, mz_s1, mz_s2, mz_cl, true_and, and_true, false_and, and_false, List.append_nil, mk_b0, mk_b1, mk_b2, mk_bn, Value.int.injEq, Option.toList_some, Option.toList_none, List.cons_append, List.nil_append, Classical.not_not, Option.some.injEq, reduceCtorEq, ne_eq, not_true_eq_false, not_false_eq_true, false_implies, true_implies, mz_rl d_Reproducer_punchInto_2, mz_rl d_Reproducer_punchInto_3, mz_rl d_Reproducer_punchInto_5, mz_rl d_Reproducer_punchInto_8, mz_rl d_Reproducer_punchInto_9, mz_rl d_Reproducer_punchInto_12, mz_rl d_Reproducer_punchInto_15, mz_rl d_Reproducer_punchInto_16, mz_rl d_Reproducer_punchInto_17, mz_rl d_Reproducer_punchInto_18, mz_rl d_Reproducer_punchInto_21, mz_rl d_Reproducer_punchInto_22, mz_rl d_Reproducer_punchInto_25, mz_rl d_Reproducer_punchInto_26, mz_rl d_Reproducer_punchInto_27, mz_rl d_Reproducer_punchInto_30, mz_rl d_Reproducer_punchInto_33, mz_rl d_Reproducer_punchInto_34, mz_rl d_Reproducer_punchInto_35, mz_rl d_Reproducer_punchInto_36, mz_rl d_Reproducer_punchInto_39, mz_rl d_Reproducer_punchInto_42, j_Reproducer_punchInto_5, j_Reproducer_punchInto_18, j_Reproducer_punchInto_39, nF_8, nI_leI (show 16 < 2 ^ 31 by decide) (show k < 2 ^ 31 by omega), show ¬ 16 ≤ k by omega, h13, h14, h15, h1, mz_u_n (show 13 ≠ 173 + 2 * x by omega), mz_u_n (show 14 ≠ 173 + 2 * x by omega), mz_u_n (show 15 ≠ 173 + 2 * x by omega), mz_u_n (show 172 + 2 * x ≠ 173 + 2 * x by omega), vp_in_nI hk16 (show 16 < 2 ^ 31 by decide), nI_clamp (show k < 2 ^ 31 by omega), mz_u_s, mz_uu, nI_add]
    refine ⟨fun h => ?_, fun h => ?_⟩
    · have e2 : pnc g s k = pnc g s (k + 1) := by
        funext j; unfold pnc
        by_cases q : j = k
        · subst q; simp [h]
        · by_cases q2 : j < k
          · simp [q2, show j < k + 1 by omega]
          · simp [q2, show ¬ j < k + 1 by omega]
      rw [e2]
      exact ih (k + 1) (by omega)
    · obtain ⟨_, t2⟩ := tn_sg e h
      have e2 : upd (fun j => nI (pnc g s k j)) k (g k) = fun j => nI (pnc g s (k + 1) j) := by
        funext j; unfold upd pnc
        by_cases q : j = k
        · subst q; simp [h, t2]
        · by_cases q2 : j < k
          · simp [q, q2, show j < k + 1 by omega]
          · simp [q, q2, show ¬ j < k + 1 by omega]
      rw [e2]
      exact ih (k + 1) (by omega)
theorem pnc_0 (g : Nat → Int32) (s : Nat → Nat) : pnc g s 0 = s := by funext j; simp [pnc]
theorem c_Reproducer_punchInto (G : mz_G) (X : mz_E) (n : Nat) (f : mz_H) {x K : Nat} {cl q : Value} {g : Nat → Int32} {s : Nat → Nat → Nat} (h13 : f 13 = .inr (8, [.ref 14])) (h14 : f 14 = .inr (6, [q, .ref 15, cl])) (h15 : f 15 = aI 16 g) (hC : Cd f K s) (hx : x < K) (hg : ∀ k, k < 16 → g k = -1 ∨ ∃ c, sg c ∧ g k = nI c) :
    mz_Ct G X y_Reproducer_punchInto b_Reproducer_punchInto 3 none (r_Reproducer_punchInto 0 0) [.ref 13, .ref (172 + 2 * x)] n f (fun v n' f' => v = none ∧ n' = n ∧ f' = mz_u f (173 + 2 * x) (aI 16 (fun j => nI (pnc g (s x) 16 j)))) := by
  refine mk_Ct 8 false [some (.ref 13), some (.ref (172 + 2 * x)), none] (by decide) rfl (by decide) (Nat.le_of_ble_eq_true rfl) rfl ?_
  refine mz_go [2] 12 ?_
  simp only [mz_r0, ev_0, ev_1, ev_2, ev_3, ev_4, ev_5, ev_6, ev_7, ev_8, ev_9, ev_10, ev_11, ev_12, ev_13, ev_14, ev_15, ev_16, ev_17, ev_18, ev_19, ev_20, ev_21, ev_22, ev_23, ev_24, ev_25, ev_26, ev_27, ev_28, ev_29, ev_30, ev_31, ev_32, ev_33, ev_34, ev_35, ev_36, ev_37, ev_38, ev_39, ev_40, ev_41, ev_42, ev_43, ev_44, ev_45, ev_46, ev_47, ev_48, ev_49, ev_50, ev_51, ev_52, ev_53, ev_54, ev_55, ev_56, ev_57, ev_58, ev_59, ev_60, ev_61, ev_62, ev_63, ev_64, ev_65, ev_66, ev_67, ev_68, ev_69, ev_70, ev_71, ev_72, ev_73, ev_74, ev_75, ev_76, ev_77, ev_78, ev_79, ev_80, ev_81, ev_82, ev_83, mk_lit, mk_fin, mk_cat, mk_fit, mk_nar, mk_fld, mk_cls, mk_ty, mk_isr, List.mem_cons, List.not_mem_nil, or_false, or_true, false_or, true_or, Nat.reduceEqDiff, Nat.reduceAdd, Nat.reduceSub, Nat.reduceLT, Nat.reduceLeDiff, ↓reduceIte, if_true, if_false, List.getElem?_cons_zero, List.getElem?_cons_succ, List.set_cons_zero, List.set_cons_succ, List.length_cons, List.length_nil, mz_s1, mz_s2, mz_cl, true_and, and_true, false_and, and_false, List.append_nil, mk_b0, mk_b1, mk_b2, mk_bn, Value.int.injEq, Option.toList_some, Option.toList_none, List.cons_append, List.nil_append, Classical.not_not, Option.some.injEq, reduceCtorEq, ne_eq, not_true_eq_false, not_false_eq_true, false_implies, true_implies, mz_rl d_Reproducer_punchInto_0, mz_rl d_Reproducer_punchInto_1, nF_8]
  have := l_Reproducer_punchInto G X n f (s := s x) h13 h14 h15 (hC x hx).1 hg 16 0 (by omega)
  rw [pnc_0, mz_ui (hC x hx).2.1] at this
  exact this
theorem Cd_set {f : mz_H} {K x : Nat} {s : Nat → Nat → Nat} (h : Cd f K s) (hx : x < K) {t : Nat → Nat} (ht : ∀ j, j < 16 → sg (t j)) : Cd (mz_u f (173 + 2 * x) (aI 16 (fun j => nI (t j)))) K (va_up s x t) := by
  intro k hk
  have q := h k hk
  by_cases e : k = x
  · subst e
    rw [mz_u_n (by omega), mz_u_s]
    have e2 : va_up s k t k = t := by simp [va_up]
    rw [e2]
    exact ⟨q.1, rfl, ht⟩
  · rw [mz_u_n (by omega), mz_u_n (by omega)]
    have e2 : va_up s x t k = s k := by simp [va_up, e]
    rw [e2]
    exact q
theorem pnc_sg {g : Nat → Int32} {s : Nat → Nat} (hg : ∀ k, k < 16 → g k = -1 ∨ ∃ c, sg c ∧ g k = nI c) (hs : ∀ j, j < 16 → sg (s j)) : ∀ j, j < 16 → sg (pnc g s 16 j) := by
  intro j hj
  unfold pnc
  by_cases h : g j ≠ -1
  · rw [if_pos ⟨hj, h⟩]; exact (tn_sg (hg j hj) h).1
  · rw [if_neg (fun z => h z.2)]; exact hs j hj
/-- a new card's signs -/
def nwc (g : Nat → Int32) (j : Nat) : Nat := if g j = -1 then 32 else (g j).toNatClampNeg
theorem l_Reproducer_newCard (G : mz_G) (X : mz_E) (n : Nat) (f : mz_H) {x : Nat} {cl q : Int32} {g : Nat → Int32} (h13 : f 13 = .inr (8, [.ref 14])) (h14 : f 14 = .inr (6, [.int q, .ref 15, .int cl])) (h15 : f 15 = aI 16 g) (hx : 172 ≤ x) (h1 : f x = .inr (2, [.ref (x + 1)])) (hg : ∀ k, k < 16 → g k = -1 ∨ ∃ c, sg c ∧ g k = nI c) :
    ∀ m k, k + m = 16 → mz_X G X 8 false b_Reproducer_newCard 3 (some (.object "CardOffice$Card")) (r_Reproducer_newCard 2 17) (fun v n' f' => v = some (.ref x) ∧ n' = n ∧ f' = mz_u f (x + 1) (aI 16 (fun j => nI (cpy (nwc g) (fun _ => 0) 16 j)))) (fun _ _ _ => False) 10 [some (.ref 13), some (.ref x), some (.int (nI k))] [] 2 17 n (mz_u f (x + 1) (aI 16 (fun j => nI (cpy (nwc g) (fun _ => 0) k j)))) := by
  intro m
  induction m with
  | zero =>
    intro k hk
    have : k = 16 := by omega
    subst this
    refine mz_go [10] 12 ?_
    simp only [mz_r0, ev_0, ev_1, ev_2, ev_3, ev_4, ev_5, ev_6, ev_7, ev_8, ev_9, ev_10, ev_11, ev_12, ev_13, ev_14, ev_15, ev_16, ev_17, ev_18, ev_19, ev_20, ev_21, ev_22, ev_23, ev_24, ev_25, ev_26, ev_27, ev_28, ev_29, ev_30, ev_31, ev_32, ev_33, ev_34, ev_35, ev_36, ev_37, ev_38, ev_39, ev_40, ev_41, ev_42, ev_43, ev_44, ev_45, ev_46, ev_47, ev_48, ev_49, ev_50, ev_51, ev_52, ev_53, ev_54, ev_55, ev_56, ev_57, ev_58, ev_59, ev_60, ev_61, ev_62, ev_63, ev_64, ev_65, ev_66, ev_67, ev_68, ev_69, ev_70, ev_71, ev_72, ev_73, ev_74, ev_75, ev_76, ev_77, ev_78, ev_79, ev_80, ev_81, ev_82, ev_83, mk_lit, mk_fin, mk_cat, mk_fit, mk_nar, mk_fld, mk_cls, mk_ty, mk_isr, List.mem_cons, List.not_mem_nil, or_false, or_true, false_or, true_or, Nat.reduceEqDiff, Nat.reduceAdd, Nat.reduceSub, Nat.reduceLT, Nat.reduceLeDiff, ↓reduceIte, if_true, if_false, List.getElem?_cons_zero, List.getElem?_cons_succ, List.set_cons_zero, List.set_cons_succ, List.length_cons, List.length_nil, mz_s1, mz_s2, mz_cl, true_and, and_true, false_and, and_false, List.append_nil, mk_b0, mk_b1, mk_b2, mk_bn, Value.int.injEq, Option.toList_some, Option.toList_none, List.cons_append, List.nil_append, Classical.not_not, Option.some.injEq, reduceCtorEq, ne_eq, not_true_eq_false, not_false_eq_true, false_implies, true_implies, mz_rl d_Reproducer_newCard_10, mz_rl d_Reproducer_newCard_11, mz_rl d_Reproducer_newCard_13, mz_rl d_Reproducer_newCard_16, mz_rl d_Reproducer_newCard_17, mz_rl d_Reproducer_newCard_20, mz_rl d_Reproducer_newCard_21, mz_rl d_Reproducer_newCard_22, mz_rl d_Reproducer_newCard_25, mz_rl d_Reproducer_newCard_26, mz_rl d_Reproducer_newCard_36, mz_rl d_Reproducer_newCard_37, j_Reproducer_newCard_13, nF_8, mk_le, mk_ti, Int.le_refl]
  | succ m ih =>
    intro k hk
    have hk16 : k < 16 := by omega
    have e := hg k hk16
    refine mz_go [26] 30 ?_
    simp only [mz_r0, ev_0, ev_1, ev_2, ev_3, ev_4, ev_5, ev_6, ev_7, ev_8, ev_9, ev_10, ev_11, ev_12, ev_13, ev_14, ev_15, ev_16, ev_17, ev_18, ev_19, ev_20, ev_21, ev_22, ev_23, ev_24, ev_25, ev_26, ev_27, ev_28, ev_29, ev_30, ev_31, ev_32, ev_33, ev_34, ev_35, ev_36, ev_37, ev_38, ev_39, ev_40, ev_41, ev_42, ev_43, ev_44, ev_45, ev_46, ev_47, ev_48, ev_49, ev_50, ev_51, ev_52, ev_53, ev_54, ev_55, ev_56, ev_57, ev_58, ev_59, ev_60, ev_61, ev_62, ev_63, ev_64, ev_65, ev_66, ev_67, ev_68, ev_69, ev_70, ev_71, ev_72, ev_73, ev_74, ev_75, ev_76, ev_77, ev_78, ev_79, ev_80, ev_81, ev_82, ev_83, mk_lit, mk_fin, mk_cat, mk_fit, mk_nar, mk_fld, mk_cls, mk_ty, mk_isr, List.mem_cons, List.not_mem_nil, or_false, or_true, false_or, true_or, Nat.reduceEqDiff, Nat.reduceAdd, Nat.reduceSub, Nat.reduceLT, Nat.reduceLeDiff, ↓reduceIte, if_true, if_false, List.getElem?_cons_zero, List.getElem?_cons_succ, List.set_cons_zero, List.set_cons_succ, List.length_cons, List.length_nil, mz_s1, mz_s2, mz_cl, true_and, and_true, false_and, and_false, List.append_nil, mk_b0, mk_b1, mk_b2, mk_bn, Value.int.injEq, Option.toList_some, Option.toList_none, List.cons_append, List.nil_append, Classical.not_not, Option.some.injEq, reduceCtorEq, ne_eq, not_true_eq_false, not_false_eq_true, false_implies, true_implies, mz_rl d_Reproducer_newCard_10, mz_rl d_Reproducer_newCard_11, mz_rl d_Reproducer_newCard_13, mz_rl d_Reproducer_newCard_16, mz_rl d_Reproducer_newCard_17, mz_rl d_Reproducer_newCard_20, mz_rl d_Reproducer_newCard_21, mz_rl d_Reproducer_newCard_22, mz_rl d_Reproducer_newCard_25, mz_rl d_Reproducer_newCard_36, mz_rl d_Reproducer_newCard_37, j_Reproducer_newCard_13, nF_8, nI_leI (show 16 < 2 ^ 31 by decide) (show k < 2 ^ 31 by omega), show ¬ 16 ≤ k by omega, h13, h1, mz_u_n (show 13 ≠ x + 1 by omega), mz_u_n (show x ≠ x + 1 by omega)]
    refine mz_callV (by simp only [d_Reproducer_newCard_26, Nat.reduceAdd]) g_8_75 rfl (fun _ _ h => h) (c_Jacks_signOrBlank G X n _ (k := k) (show _ = (Sum.inr (6, [.int q, .ref 15, .int cl]) : mz_C) by rw [mz_u_n (show 14 ≠ x + 1 by omega)]; exact h14) (show _ = aI 16 g by rw [mz_u_n (show 15 ≠ x + 1 by omega)]; exact h15) hk16 (by decide)) (show _ = (Sum.inr (6, [.int q, .ref 15, .int cl]) : mz_C) by rw [mz_u_n (show 14 ≠ x + 1 by omega)]; exact h14) rfl rfl (by decide) (Nat.le_of_ble_eq_true rfl) rfl ?_; intro v_ n_ f_ h_; obtain ⟨rfl, hn_, hf_⟩ := h_; replace hn_ := hn_.symm; replace hf_ := hf_.symm; subst hn_; subst hf_
    have e3 : (if g k = -1 then nI 32 else g k) = nI (nwc g k) := by
      unfold nwc
      by_cases h : g k = -1
      · rw [if_pos h, if_pos h]
      · rw [if_neg h, if_neg h]; exact (tn_sg e h).2.symm
    rw [e3]
    refine mz_go [10] 30 ?_
    simp only [mz_r0, ev_0, ev_1, ev_2, ev_3, ev_4, ev_5, ev_6, ev_7, ev_8, ev_9, ev_10, ev_11, ev_12, ev_13, ev_14, ev_15, ev_16, ev_17, ev_18, ev_19, ev_20, ev_21, ev_22, ev_23, ev_24, ev_25, ev_26, ev_27, ev_28, ev_29, ev_30, ev_31, ev_32, ev_33, ev_34, ev_35, ev_36, ev_37, ev_38, ev_39, ev_40, ev_41, ev_42, ev_43, ev_44, ev_45, ev_46, ev_47, ev_48, ev_49, ev_50, ev_51, ev_52, ev_53, ev_54, ev_55, ev_56, ev_57, ev_58, ev_59, ev_60, ev_61, ev_62, ev_63, ev_64, ev_65, ev_66, ev_67, ev_68, ev_69, ev_70, ev_71, ev_72, ev_73, ev_74, ev_75, ev_76, ev_77, ev_78, ev_79, ev_80, ev_81, ev_82, ev_83, mk_lit, mk_fin, mk_cat, mk_fit, mk_nar, mk_fld, mk_cls, mk_ty, mk_isr, List.mem_cons, List.not_mem_nil, or_false, or_true, false_or, true_or, Nat.reduceEqDiff, Nat.reduceAdd, Nat.reduceSub, Nat.reduceLT, Nat.reduceLeDiff, ↓reduceIte, if_true, if_false, List.getElem?_cons_zero, List.getElem?_cons_succ, List.set_cons_zero, List.set_cons_succ, List.length_cons, List.length_nil, mz_s1, mz_s2, mz_cl, true_and, and_true, false_and, and_false, List.append_nil, mk_b0, mk_b1, mk_b2, mk_bn, Value.int.injEq, Option.toList_some, Option.toList_none, List.cons_append, List.nil_append, Classical.not_not, Option.some.injEq, reduceCtorEq, ne_eq, not_true_eq_false, not_false_eq_true, false_implies, true_implies, mz_rl d_Reproducer_newCard_29, mz_rl d_Reproducer_newCard_30, mz_rl d_Reproducer_newCard_33, j_Reproducer_newCard_33, nF_8, vp_in_nI hk16 (show 16 < 2 ^ 31 by decide), nI_clamp (show k < 2 ^ 31 by omega), mz_u_s, mz_uu, nI_add, upd_nI, cpy_up]
    exact ih (k + 1) (by omega)
theorem c_Reproducer_newCard (G : mz_G) (X : mz_E) (n : Nat) (f : mz_H) {cl q : Int32} {g : Nat → Int32} (h13 : f 13 = .inr (8, [.ref 14])) (h14 : f 14 = .inr (6, [.int q, .ref 15, .int cl])) (h15 : f 15 = aI 16 g) (hn : 172 ≤ n) (hn2 : n + 2 ≤ mz_e0) (hg : ∀ k, k < 16 → g k = -1 ∨ ∃ c, sg c ∧ g k = nI c) :
    mz_Ct G X y_Reproducer_newCard b_Reproducer_newCard 3 (some (.object "CardOffice$Card")) (r_Reproducer_newCard 2 17) [.ref 13] n f (fun v n' f' => v = some (.ref n) ∧ n' = n + 2 ∧ f' = mz_u (mz_u f n (.inr (2, [.ref (n + 1)]))) (n + 1) (aI 16 (fun j => nI (cpy (nwc g) (fun _ => 0) 16 j)))) := by
  refine mk_Ct 8 false [some (.ref 13), none, none] (by decide) rfl (by decide) (Nat.le_of_ble_eq_true rfl) rfl ?_
  refine mz_new (ci := 2) (fs := [.null]) (by simp only [d_Reproducer_newCard]) rfl w_new_8_59 rfl (by decide) (by decide) (by omega) ?_
  refine mz_go [4] 4 ?_
  simp only [mz_r0, ev_0, ev_1, ev_2, ev_3, ev_4, ev_5, ev_6, ev_7, ev_8, ev_9, ev_10, ev_11, ev_12, ev_13, ev_14, ev_15, ev_16, ev_17, ev_18, ev_19, ev_20, ev_21, ev_22, ev_23, ev_24, ev_25, ev_26, ev_27, ev_28, ev_29, ev_30, ev_31, ev_32, ev_33, ev_34, ev_35, ev_36, ev_37, ev_38, ev_39, ev_40, ev_41, ev_42, ev_43, ev_44, ev_45, ev_46, ev_47, ev_48, ev_49, ev_50, ev_51, ev_52, ev_53, ev_54, ev_55, ev_56, ev_57, ev_58, ev_59, ev_60, ev_61, ev_62, ev_63, ev_64, ev_65, ev_66, ev_67, ev_68, ev_69, ev_70, ev_71, ev_72, ev_73, ev_74, ev_75, ev_76, ev_77, ev_78, ev_79, ev_80, ev_81, ev_82, ev_83, mk_lit, mk_fin, mk_cat, mk_fit, mk_nar, mk_fld, mk_cls, mk_ty, mk_isr, List.mem_cons, List.not_mem_nil, or_false, or_true, false_or, true_or, Nat.reduceEqDiff, Nat.reduceAdd, Nat.reduceSub, Nat.reduceLT, Nat.reduceLeDiff, ↓reduceIte, if_true, if_false, List.getElem?_cons_zero, List.getElem?_cons_succ, List.set_cons_zero, List.set_cons_succ, List.length_cons, List.length_nil, mz_s1, mz_s2, mz_cl, true_and, and_true, false_and, and_false, List.append_nil, mk_b0, mk_b1, mk_b2, mk_bn, Value.int.injEq, Option.toList_some, Option.toList_none, List.cons_append, List.nil_append, Classical.not_not, Option.some.injEq, reduceCtorEq, ne_eq, not_true_eq_false, not_false_eq_true, false_implies, true_implies, mz_rl d_Reproducer_newCard_3, nF_8]
  refine mz_callI (by simp only [d_Reproducer_newCard_4, Nat.reduceAdd]) g_8_74 rfl (fun _ _ h => h) (c_Card_init G X (n + 1) _ (a := n) (mz_u_s f n (.inr (2, [.null]))) (by omega) (by omega)) (by decide) (Nat.le_of_ble_eq_true rfl) rfl ?_; rintro v_ n_ f_ ⟨rfl, rfl, rfl⟩
  refine mz_go [10] 12 ?_
  simp only [mz_r0, ev_0, ev_1, ev_2, ev_3, ev_4, ev_5, ev_6, ev_7, ev_8, ev_9, ev_10, ev_11, ev_12, ev_13, ev_14, ev_15, ev_16, ev_17, ev_18, ev_19, ev_20, ev_21, ev_22, ev_23, ev_24, ev_25, ev_26, ev_27, ev_28, ev_29, ev_30, ev_31, ev_32, ev_33, ev_34, ev_35, ev_36, ev_37, ev_38, ev_39, ev_40, ev_41, ev_42, ev_43, ev_44, ev_45, ev_46, ev_47, ev_48, ev_49, ev_50, ev_51, ev_52, ev_53, ev_54, ev_55, ev_56, ev_57, ev_58, ev_59, ev_60, ev_61, ev_62, ev_63, ev_64, ev_65, ev_66, ev_67, ev_68, ev_69, ev_70, ev_71, ev_72, ev_73, ev_74, ev_75, ev_76, ev_77, ev_78, ev_79, ev_80, ev_81, ev_82, ev_83, mk_lit, mk_fin, mk_cat, mk_fit, mk_nar, mk_fld, mk_cls, mk_ty, mk_isr, List.mem_cons, List.not_mem_nil, or_false, or_true, false_or, true_or, Nat.reduceEqDiff, Nat.reduceAdd, Nat.reduceSub, Nat.reduceLT, Nat.reduceLeDiff, ↓reduceIte, if_true, if_false, List.getElem?_cons_zero, List.getElem?_cons_succ, List.set_cons_zero, List.set_cons_succ, List.length_cons, List.length_nil, mz_s1, mz_s2, mz_cl, true_and, and_true, false_and, and_false, List.append_nil, mk_b0, mk_b1, mk_b2, mk_bn, Value.int.injEq, Option.toList_some, Option.toList_none, List.cons_append, List.nil_append, Classical.not_not, Option.some.injEq, reduceCtorEq, ne_eq, not_true_eq_false, not_false_eq_true, false_implies, true_implies, mz_rl d_Reproducer_newCard_7, mz_rl d_Reproducer_newCard_8, mz_rl d_Reproducer_newCard_9, nF_8]
  rw [mz_uc _ (show n + 1 ≠ n by omega), mz_uu]
  have := l_Reproducer_newCard G X (n + 1 + 1) (mz_u f n (.inr (2, [.ref (n + 1)]))) (x := n) (q := q) (cl := cl) (g := g) (by rw [mz_u_n (by omega)]; exact h13) (by rw [mz_u_n (by omega)]; exact h14) (by rw [mz_u_n (by omega)]; exact h15) hn (mz_u_s _ _ _) hg 16 0 (by omega)
  rw [cpy_0] at this
  exact this
theorem Cd_new {f : mz_H} {K : Nat} {s : Nat → Nat → Nat} (h : Cd f K s) {t : Nat → Nat} (ht : ∀ j, j < 16 → sg (t j)) : Cd (mz_u (mz_u f (172 + 2 * K) (.inr (2, [.ref (172 + 2 * K + 1)]))) (172 + 2 * K + 1) (aI 16 (fun j => nI (t j)))) (K + 1) (va_up s K t) := by
  intro k hk
  by_cases e : k = K
  · subst e
    have e2 : va_up s k t k = t := by simp [va_up]
    rw [mz_u_n (by omega), mz_u_s, show 173 + 2 * k = 172 + 2 * k + 1 by omega, mz_u_s, e2]
    exact ⟨rfl, rfl, ht⟩
  · rw [mz_u_n (by omega), mz_u_n (by omega), mz_u_n (by omega), mz_u_n (by omega)]
    have e2 : va_up s K t k = s k := by simp [va_up, e]
    rw [e2]
    exact h k (by omega)
theorem nwc_sg {g : Nat → Int32} (hg : ∀ k, k < 16 → g k = -1 ∨ ∃ c, sg c ∧ g k = nI c) : ∀ j, j < 16 → sg (cpy (nwc g) (fun _ => 0) 16 j) := by
  intro j hj
  rw [cpy_lt hj]
  unfold nwc
  by_cases h : g j = -1
  · rw [if_pos h]; exact Or.inl rfl
  · rw [if_neg h]; exact (tn_sg (hg j hj) h).1
