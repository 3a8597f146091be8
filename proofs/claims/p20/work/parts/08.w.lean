section
theorem mk_arrI (N : Nat) : ∀ cA : ClassId, vp_cell cA (N, .inl (fun _ => nI 0)) = arrV cA N (fun _ => defaultValue .int) := fun _ => rfl
theorem c_Card_init (G : mz_G) (X : mz_E) (n : Nat) (f : mz_H) {a : Nat} (h1 : f a = .inr (2, [.null])) (ha : a < n) (hn : n + 1 ≤ mz_e0) : mz_Ct G X y_Card_init b_Card_init 1 none (r_Card_init 1 16) [.ref a] n f (fun v n' f' => v = none ∧ n' = n + 1 ∧ f' = mz_u (mz_u f n (aI 16 (fun _ => nI 0))) a (.inr (2, [.ref n]))) := by
  refine mk_Ct 2 true [some (.ref a)] (by decide) rfl (by decide) (Nat.le_of_ble_eq_true rfl) rfl ?_
  refine mz_go [1] 4 ?_
  simp only [mz_r0, mk_lit, mk_fin, mk_cat, mk_fit, mk_nar, mk_cls, mk_ty, mk_isr, List.mem_cons, List.not_mem_nil, or_false, or_true, false_or, true_or, Nat.reduceEqDiff, Nat.reduceAdd, Nat.reduceSub, Nat.reduceLT, Nat.reduceLeDiff, ↓reduceIte, if_true, if_false, List.getElem?_cons_zero, List.getElem?_cons_succ, List.set_cons_zero, List.set_cons_succ, List.length_cons, List.length_nil, mz_s1, mz_s2, mz_cl, true_and, and_true, false_and, and_false, List.append_nil, mk_b0, mk_b1, mk_b2, mk_bn, Value.int.injEq, Option.toList_some, Option.toList_none, List.cons_append, List.nil_append, Classical.not_not, Option.some.injEq, reduceCtorEq, ne_eq, not_true_eq_false, not_false_eq_true, false_implies, true_implies, ev_41, mz_rl d_Card_init_0, nF_2]
  refine mz_objInit (by simp only [d_Card_init]) w_obj_2 (by decide) (by decide) ?_
  refine mz_go [7] 4 ?_
  simp only [mz_r0, mk_lit, mk_fin, mk_cat, mk_fit, mk_nar, mk_cls, mk_ty, mk_isr, List.mem_cons, List.not_mem_nil, or_false, or_true, false_or, true_or, Nat.reduceEqDiff, Nat.reduceAdd, Nat.reduceSub, Nat.reduceLT, Nat.reduceLeDiff, ↓reduceIte, if_true, if_false, List.getElem?_cons_zero, List.getElem?_cons_succ, List.set_cons_zero, List.set_cons_succ, List.length_cons, List.length_nil, mz_s1, mz_s2, mz_cl, true_and, and_true, false_and, and_false, List.append_nil, mk_b0, mk_b1, mk_b2, mk_bn, Value.int.injEq, Option.toList_some, Option.toList_none, List.cons_append, List.nil_append, Classical.not_not, Option.some.injEq, reduceCtorEq, ne_eq, not_true_eq_false, not_false_eq_true, false_implies, true_implies, ev_41, ev_1, mz_rl d_Card_init_4, mz_rl d_Card_init_5, nF_2]
  refine mz_newa (at' := .int) (ty := .int) (t := 0) (N := 16) (a0 := (16, .inl (fun _ => nI 0))) (by simp only [d_Card_init]) rfl rfl (fun _ _ => rfl) w_arr_int (mk_arrI 16) (fun _ => rfl) trivial (by decide) (by decide) (by decide) (by decide) (by decide) (by omega) ?_
  refine mz_go [] 4 ?_
  simp only [mz_r0, mk_lit, mk_fin, mk_cat, mk_fit, mk_nar, mk_cls, mk_ty, mk_isr, List.mem_cons, List.not_mem_nil, or_false, or_true, false_or, true_or, Nat.reduceEqDiff, Nat.reduceAdd, Nat.reduceSub, Nat.reduceLT, Nat.reduceLeDiff, ↓reduceIte, if_true, if_false, List.getElem?_cons_zero, List.getElem?_cons_succ, List.set_cons_zero, List.set_cons_succ, List.length_cons, List.length_nil, mz_s1, mz_s2, mz_cl, true_and, and_true, false_and, and_false, List.append_nil, mk_b0, mk_b1, mk_b2, mk_bn, Value.int.injEq, Option.toList_some, Option.toList_none, List.cons_append, List.nil_append, Classical.not_not, Option.some.injEq, reduceCtorEq, ne_eq, not_true_eq_false, not_false_eq_true, false_implies, true_implies, ev_80, ft_2_0, fn_2_0, ev_67, mz_rl d_Card_init_9, mz_rl d_Card_init_12, nF_2, h1, mz_u_n (show a ≠ n by omega), mk_fldF]
/-- what is punched into a card: the jacks' signs, where there are any, up to column k -/
def pnc (g : Nat → Int32) (s : Nat → Nat) (k : Nat) : Nat → Nat := fun j => if j < k ∧ g j ≠ -1 then (g j).toNatClampNeg else s j
theorem tn_sg {x : Int32} (h : x = -1 ∨ ∃ c, sg c ∧ x = nI c) (h2 : x ≠ -1) : sg x.toNatClampNeg ∧ nI x.toNatClampNeg = x := by
  rcases h with h | ⟨c, hc, rfl⟩
  · exact absurd h h2
  · have := sg_lt hc
    rw [nI_clamp (by omega)]
    exact ⟨hc, rfl⟩
theorem l_Reproducer_punchInto (G : mz_G) (X : mz_E) (n : Nat) (f : mz_H) {x : Nat} {cl q : Value} {g : Nat → Int32} {s : Nat → Nat} (h13 : f 13 = .inr (8, [.ref 14])) (h14 : f 14 = .inr (6, [q, .ref 15, cl])) (h15 : f 15 = aI 16 g) (h1 : f (172 + 2 * x) = .inr (2, [.ref (173 + 2 * x)])) (hg : ∀ k, k < 16 → g k = -1 ∨ ∃ c, sg c ∧ g k = nI c) :
    ∀ m k, k + m = 16 → mz_X G X 8 false b_Reproducer_punchInto 3 none (r_Reproducer_punchInto 0 0) (fun v n' f' => v = none ∧ n' = n ∧ f' = mz_u f (173 + 2 * x) (aI 16 (fun j => nI (pnc g s 16 j)))) (fun _ _ _ => False) 2 [some (.ref 13), some (.ref (172 + 2 * x)), some (.int (nI k))] [] 0 0 n (mz_u f (173 + 2 * x) (aI 16 (fun j => nI (pnc g s k j)))) := by
  intro m
  induction m with
  | zero =>
    intro k hk
    have : k = 16 := by omega
    subst this
    refine mz_go [2] 12 ?_
    simp only [mz_r0, mk_lit, mk_fin, mk_cat, mk_fit, mk_nar, mk_cls, mk_ty, mk_isr, List.mem_cons, List.not_mem_nil, or_false, or_true, false_or, true_or, Nat.reduceEqDiff, Nat.reduceAdd, Nat.reduceSub, Nat.reduceLT, Nat.reduceLeDiff, ↓reduceIte, if_true, if_false, List.getElem?_cons_zero, List.getElem?_cons_succ, List.set_cons_zero, List.set_cons_succ, List.length_cons, List.length_nil, mz_s1, mz_s2, mz_cl, true_and, and_true, false_and, and_false, List.append_nil, mk_b0, mk_b1, mk_b2, mk_bn, Value.int.injEq, Option.toList_some, Option.toList_none, List.cons_append, List.nil_append, Classical.not_not, Option.some.injEq, reduceCtorEq, ne_eq, not_true_eq_false, not_false_eq_true, false_implies, true_implies, ev_37, ev_1, ev_56, ev_41, ev_79, ft_8_0, fn_8_0, ft_6_1, fn_6_1, ev_68, ev_0, ev_50, ft_2_0, fn_2_0, ev_72, ev_48, ev_61, ev_67, mz_rl d_Reproducer_punchInto_2, mz_rl d_Reproducer_punchInto_3, mz_rl d_Reproducer_punchInto_5, mz_rl d_Reproducer_punchInto_8, mz_rl d_Reproducer_punchInto_9, mz_rl d_Reproducer_punchInto_12, mz_rl d_Reproducer_punchInto_15, mz_rl d_Reproducer_punchInto_16, mz_rl d_Reproducer_punchInto_17, mz_rl d_Reproducer_punchInto_18, mz_rl d_Reproducer_punchInto_21, mz_rl d_Reproducer_punchInto_22, mz_rl d_Reproducer_punchInto_25, mz_rl d_Reproducer_punchInto_26, mz_rl d_Reproducer_punchInto_27, mz_rl d_Reproducer_punchInto_30, mz_rl d_Reproducer_punchInto_33, mz_rl d_Reproducer_punchInto_34, mz_rl d_Reproducer_punchInto_35, mz_rl d_Reproducer_punchInto_36, mz_rl d_Reproducer_punchInto_39, mz_rl d_Reproducer_punchInto_42, j_Reproducer_punchInto_5, j_Reproducer_punchInto_18, j_Reproducer_punchInto_39, nF_8, mk_le, mk_ti, Int.le_refl]
  | succ m ih =>
    intro k hk
    have hk16 : k < 16 := by omega
    have e := hg k hk16
    refine mz_go [2] 30 ?_
    simp only [mz_r0, mk_lit, mk_fin, mk_cat, mk_fit, mk_nar, mk_cls, mk_ty, mk_isr, List.mem_cons, List.not_mem_nil, or_false, or_true, false_or, true_or, Nat.reduceEqDiff, Nat.reduceAdd, Nat.reduceSub, Nat.reduceLT, Nat.reduceLeDiff, ↓reduceIte, if_true, if_false, List.getElem?_cons_zero, List.getElem?_cons_succ, List.set_cons_zero, List.set_cons_succ, List.length_cons, List.length_nil, mz_s1, mz_s2, mz_cl, true_and, and_true, false_and, and_false, List.append_nil, mk_b0, mk_b1, mk_b2, mk_bn, Value.int.injEq, Option.toList_some, Option.toList_none, List.cons_append, List.nil_append, Classical.not_not, Option.some.injEq, reduceCtorEq, ne_eq, not_true_eq_false, not_false_eq_true, false_implies, true_implies, ev_37, ev_1, ev_56, ev_41, ev_79, ft_8_0, fn_8_0, ft_6_1, fn_6_1, ev_68, ev_0, ev_50, ft_2_0, fn_2_0, ev_72, ev_48, ev_61, ev_67, mz_rl d_Reproducer_punchInto_2, mz_rl d_Reproducer_punchInto_3, mz_rl d_Reproducer_punchInto_5, mz_rl d_Reproducer_punchInto_8, mz_rl d_Reproducer_punchInto_9, mz_rl d_Reproducer_punchInto_12, mz_rl d_Reproducer_punchInto_15, mz_rl d_Reproducer_punchInto_16, mz_rl d_Reproducer_punchInto_17, mz_rl d_Reproducer_punchInto_18, mz_rl d_Reproducer_punchInto_21, mz_rl d_Reproducer_punchInto_22, mz_rl d_Reproducer_punchInto_25, mz_rl d_Reproducer_punchInto_26, mz_rl d_Reproducer_punchInto_27, mz_rl d_Reproducer_punchInto_30, mz_rl d_Reproducer_punchInto_33, mz_rl d_Reproducer_punchInto_34, mz_rl d_Reproducer_punchInto_35, mz_rl d_Reproducer_punchInto_36, mz_rl d_Reproducer_punchInto_39, mz_rl d_Reproducer_punchInto_42, j_Reproducer_punchInto_5, j_Reproducer_punchInto_18, j_Reproducer_punchInto_39, nF_8, nI_leI (show 16 < 2 ^ 31 by decide) (show k < 2 ^ 31 by omega), show ¬ 16 ≤ k by omega, h13, h14, h15, h1, mz_u_n (show 13 ≠ 173 + 2 * x by omega), mz_u_n (show 14 ≠ 173 + 2 * x by omega), mz_u_n (show 15 ≠ 173 + 2 * x by omega), mz_u_n (show 172 + 2 * x ≠ 173 + 2 * x by omega), vp_in_nI hk16 (show 16 < 2 ^ 31 by decide), nI_clamp (show k < 2 ^ 31 by omega), mz_u_s, mz_uu, nI_add]
    refine ⟨fun h => ?_, fun h => ?_⟩
    · have e2 : pnc g s k = pnc g s (k + 1) := by
        funext j; unfold pnc
        by_cases q : j = k
        · subst q; simp [h]
        · by_cases q2 : j < k
          · simp [q2, show j < k + 1 by omega]
          · simp [q2, show ¬ j < k + 1 by omega]
      rw [e2]
      exact ih (k + 1) (by omega)
    · obtain ⟨_, t2⟩ := tn_sg e h
      have e2 : upd (fun j => nI (pnc g s k j)) k (g k) = fun j => nI (pnc g s (k + 1) j) := by
        funext j; unfold upd pnc
        by_cases q : j = k
        · subst q; simp [h, t2]
        · by_cases q2 : j < k
          · simp [q, q2, show j < k + 1 by omega]
          · simp [q, q2, show ¬ j < k + 1 by omega]
      rw [e2]
      exact ih (k + 1) (by omega)
theorem pnc_0 (g : Nat → Int32) (s : Nat → Nat) : pnc g s 0 = s := by funext j; simp [pnc]
theorem c_Reproducer_punchInto (G : mz_G) (X : mz_E) (n : Nat) (f : mz_H) {x K : Nat} {cl q : Value} {g : Nat → Int32} {s : Nat → Nat → Nat} (h13 : f 13 = .inr (8, [.ref 14])) (h14 : f 14 = .inr (6, [q, .ref 15, cl])) (h15 : f 15 = aI 16 g) (hC : Cd f K s) (hx : x < K) (hg : ∀ k, k < 16 → g k = -1 ∨ ∃ c, sg c ∧ g k = nI c) :
    mz_Ct G X y_Reproducer_punchInto b_Reproducer_punchInto 3 none (r_Reproducer_punchInto 0 0) [.ref 13, .ref (172 + 2 * x)] n f (fun v n' f' => v = none ∧ n' = n ∧ f' = mz_u f (173 + 2 * x) (aI 16 (fun j => nI (pnc g (s x) 16 j)))) := by
  refine mk_Ct 8 false [some (.ref 13), some (.ref (172 + 2 * x)), none] (by decide) rfl (by decide) (Nat.le_of_ble_eq_true rfl) rfl ?_
  refine mz_go [2] 12 ?_
  simp only [mz_r0, mk_lit, mk_fin, mk_cat, mk_fit, mk_nar, mk_cls, mk_ty, mk_isr, List.mem_cons, List.not_mem_nil, or_false, or_true, false_or, true_or, Nat.reduceEqDiff, Nat.reduceAdd, Nat.reduceSub, Nat.reduceLT, Nat.reduceLeDiff, ↓reduceIte, if_true, if_false, List.getElem?_cons_zero, List.getElem?_cons_succ, List.set_cons_zero, List.set_cons_succ, List.length_cons, List.length_nil, mz_s1, mz_s2, mz_cl, true_and, and_true, false_and, and_false, List.append_nil, mk_b0, mk_b1, mk_b2, mk_bn, Value.int.injEq, Option.toList_some, Option.toList_none, List.cons_append, List.nil_append, Classical.not_not, Option.some.injEq, reduceCtorEq, ne_eq, not_true_eq_false, not_false_eq_true, false_implies, true_implies, ev_0, ev_43, mz_rl d_Reproducer_punchInto_0, mz_rl d_Reproducer_punchInto_1, nF_8]
  have := l_Reproducer_punchInto G X n f (s := s x) h13 h14 h15 (hC x hx).1 hg 16 0 (by omega)
  rw [pnc_0, mz_ui (hC x hx).2.1] at this
  exact this
theorem Cd_set {f : mz_H} {K x : Nat} {s : Nat → Nat → Nat} (h : Cd f K s) (hx : x < K) {t : Nat → Nat} (ht : ∀ j, j < 16 → sg (t j)) : Cd (mz_u f (173 + 2 * x) (aI 16 (fun j => nI (t j)))) K (va_up s x t) := by
  intro k hk
  have q := h k hk
  by_cases e : k = x
  · subst e
    rw [mz_u_n (by omega), mz_u_s]
    have e2 : va_up s k t k = t := by simp [va_up]
    rw [e2]
    exact ⟨q.1, rfl, ht⟩
  · rw [mz_u_n (by omega), mz_u_n (by omega)]
    have e2 : va_up s x t k = s k := by simp [va_up, e]
    rw [e2]
    exact q
theorem pnc_sg {g : Nat → Int32} {s : Nat → Nat} (hg : ∀ k, k < 16 → g k = -1 ∨ ∃ c, sg c ∧ g k = nI c) (hs : ∀ j, j < 16 → sg (s j)) : ∀ j, j < 16 → sg (pnc g s 16 j) := by
  intro j hj
  unfold pnc
  by_cases h : g j ≠ -1
  · rw [if_pos ⟨hj, h⟩]; exact (tn_sg (hg j hj) h).1
  · rw [if_neg (fun z => h z.2)]; exact hs j hj
/-- a new card's signs -/
def nwc (g : Nat → Int32) (j : Nat) : Nat := if g j = -1 then 32 else (g j).toNatClampNeg
theorem l_Reproducer_newCard (G : mz_G) (X : mz_E) (n : Nat) (f : mz_H) {x : Nat} {cl q : Int32} {g : Nat → Int32} (h13 : f 13 = .inr (8, [.ref 14])) (h14 : f 14 = .inr (6, [.int q, .ref 15, .int cl])) (h15 : f 15 = aI 16 g) (hx : 172 ≤ x) (h1 : f x = .inr (2, [.ref (x + 1)])) (hg : ∀ k, k < 16 → g k = -1 ∨ ∃ c, sg c ∧ g k = nI c) :
    ∀ m k, k + m = 16 → mz_X G X 8 false b_Reproducer_newCard 3 (some (.object "CardOffice$Card")) (r_Reproducer_newCard 2 17) (fun v n' f' => v = some (.ref x) ∧ n' = n ∧ f' = mz_u f (x + 1) (aI 16 (fun j => nI (cpy (nwc g) (fun _ => 0) 16 j)))) (fun _ _ _ => False) 10 [some (.ref 13), some (.ref x), some (.int (nI k))] [] 2 17 n (mz_u f (x + 1) (aI 16 (fun j => nI (cpy (nwc g) (fun _ => 0) k j)))) := by
  intro m
  induction m with
  | zero =>
    intro k hk
    have : k = 16 := by omega
    subst this
    refine mz_go [10] 12 ?_
    simp only [mz_r0, mk_lit, mk_fin, mk_cat, mk_fit, mk_nar, mk_cls, mk_ty, mk_isr, List.mem_cons, List.not_mem_nil, or_false, or_true, false_or, true_or, Nat.reduceEqDiff, Nat.reduceAdd, Nat.reduceSub, Nat.reduceLT, Nat.reduceLeDiff, ↓reduceIte, if_true, if_false, List.getElem?_cons_zero, List.getElem?_cons_succ, List.set_cons_zero, List.set_cons_succ, List.length_cons, List.length_nil, mz_s1, mz_s2, mz_cl, true_and, and_true, false_and, and_false, List.append_nil, mk_b0, mk_b1, mk_b2, mk_bn, Value.int.injEq, Option.toList_some, Option.toList_none, List.cons_append, List.nil_append, Classical.not_not, Option.some.injEq, reduceCtorEq, ne_eq, not_true_eq_false, not_false_eq_true, false_implies, true_implies, ev_37, ev_1, ev_56, ev_41, ev_79, ft_2_0, fn_2_0, ft_8_0, fn_8_0, ev_66, mz_rl d_Reproducer_newCard_10, mz_rl d_Reproducer_newCard_11, mz_rl d_Reproducer_newCard_13, mz_rl d_Reproducer_newCard_16, mz_rl d_Reproducer_newCard_17, mz_rl d_Reproducer_newCard_20, mz_rl d_Reproducer_newCard_21, mz_rl d_Reproducer_newCard_22, mz_rl d_Reproducer_newCard_25, mz_rl d_Reproducer_newCard_26, mz_rl d_Reproducer_newCard_36, mz_rl d_Reproducer_newCard_37, j_Reproducer_newCard_13, nF_8, mk_le, mk_ti, Int.le_refl]
  | succ m ih =>
    intro k hk
    have hk16 : k < 16 := by omega
    have e := hg k hk16
    refine mz_go [26] 30 ?_
    simp only [mz_r0, mk_lit, mk_fin, mk_cat, mk_fit, mk_nar, mk_cls, mk_ty, mk_isr, List.mem_cons, List.not_mem_nil, or_false, or_true, false_or, true_or, Nat.reduceEqDiff, Nat.reduceAdd, Nat.reduceSub, Nat.reduceLT, Nat.reduceLeDiff, ↓reduceIte, if_true, if_false, List.getElem?_cons_zero, List.getElem?_cons_succ, List.set_cons_zero, List.set_cons_succ, List.length_cons, List.length_nil, mz_s1, mz_s2, mz_cl, true_and, and_true, false_and, and_false, List.append_nil, mk_b0, mk_b1, mk_b2, mk_bn, Value.int.injEq, Option.toList_some, Option.toList_none, List.cons_append, List.nil_append, Classical.not_not, Option.some.injEq, reduceCtorEq, ne_eq, not_true_eq_false, not_false_eq_true, false_implies, true_implies, ev_37, ev_1, ev_56, ev_41, ev_79, ft_2_0, fn_2_0, ft_8_0, fn_8_0, ev_66, mz_rl d_Reproducer_newCard_10, mz_rl d_Reproducer_newCard_11, mz_rl d_Reproducer_newCard_13, mz_rl d_Reproducer_newCard_16, mz_rl d_Reproducer_newCard_17, mz_rl d_Reproducer_newCard_20, mz_rl d_Reproducer_newCard_21, mz_rl d_Reproducer_newCard_22, mz_rl d_Reproducer_newCard_25, mz_rl d_Reproducer_newCard_36, mz_rl d_Reproducer_newCard_37, j_Reproducer_newCard_13, nF_8, nI_leI (show 16 < 2 ^ 31 by decide) (show k < 2 ^ 31 by omega), show ¬ 16 ≤ k by omega, h13, h1, mz_u_n (show 13 ≠ x + 1 by omega), mz_u_n (show x ≠ x + 1 by omega)]
    refine mz_callV (by simp only [d_Reproducer_newCard_26, Nat.reduceAdd]) g_8_75 rfl (fun _ _ h => h) (c_Jacks_signOrBlank G X n _ (k := k) (show _ = (Sum.inr (6, [.int q, .ref 15, .int cl]) : mz_C) by rw [mz_u_n (show 14 ≠ x + 1 by omega)]; exact h14) (show _ = aI 16 g by rw [mz_u_n (show 15 ≠ x + 1 by omega)]; exact h15) hk16 (by decide)) (show _ = (Sum.inr (6, [.int q, .ref 15, .int cl]) : mz_C) by rw [mz_u_n (show 14 ≠ x + 1 by omega)]; exact h14) rfl rfl (by decide) (Nat.le_of_ble_eq_true rfl) rfl ?_; intro v_ n_ f_ h_; obtain ⟨rfl, hn_, hf_⟩ := h_; replace hn_ := hn_.symm; replace hf_ := hf_.symm; subst hn_; subst hf_
    have e3 : (if g k = -1 then nI 32 else g k) = nI (nwc g k) := by
      unfold nwc
      by_cases h : g k = -1
      · rw [if_pos h, if_pos h]
      · rw [if_neg h, if_neg h]; exact (tn_sg e h).2.symm
    rw [e3]
    refine mz_go [10] 30 ?_
    simp only [mz_r0, mk_lit, mk_fin, mk_cat, mk_fit, mk_nar, mk_cls, mk_ty, mk_isr, List.mem_cons, List.not_mem_nil, or_false, or_true, false_or, true_or, Nat.reduceEqDiff, Nat.reduceAdd, Nat.reduceSub, Nat.reduceLT, Nat.reduceLeDiff, ↓reduceIte, if_true, if_false, List.getElem?_cons_zero, List.getElem?_cons_succ, List.set_cons_zero, List.set_cons_succ, List.length_cons, List.length_nil, mz_s1, mz_s2, mz_cl, true_and, and_true, false_and, and_false, List.append_nil, mk_b0, mk_b1, mk_b2, mk_bn, Value.int.injEq, Option.toList_some, Option.toList_none, List.cons_append, List.nil_append, Classical.not_not, Option.some.injEq, reduceCtorEq, ne_eq, not_true_eq_false, not_false_eq_true, false_implies, true_implies, ev_72, ev_48, ev_61, mz_rl d_Reproducer_newCard_29, mz_rl d_Reproducer_newCard_30, mz_rl d_Reproducer_newCard_33, j_Reproducer_newCard_33, nF_8, vp_in_nI hk16 (show 16 < 2 ^ 31 by decide), nI_clamp (show k < 2 ^ 31 by omega), mz_u_s, mz_uu, nI_add, upd_nI, cpy_up]
    exact ih (k + 1) (by omega)
theorem c_Reproducer_newCard (G : mz_G) (X : mz_E) (n : Nat) (f : mz_H) {cl q : Int32} {g : Nat → Int32} (h13 : f 13 = .inr (8, [.ref 14])) (h14 : f 14 = .inr (6, [.int q, .ref 15, .int cl])) (h15 : f 15 = aI 16 g) (hn : 172 ≤ n) (hn2 : n + 2 ≤ mz_e0) (hg : ∀ k, k < 16 → g k = -1 ∨ ∃ c, sg c ∧ g k = nI c) :
    mz_Ct G X y_Reproducer_newCard b_Reproducer_newCard 3 (some (.object "CardOffice$Card")) (r_Reproducer_newCard 2 17) [.ref 13] n f (fun v n' f' => v = some (.ref n) ∧ n' = n + 2 ∧ f' = mz_u (mz_u f n (.inr (2, [.ref (n + 1)]))) (n + 1) (aI 16 (fun j => nI (cpy (nwc g) (fun _ => 0) 16 j)))) := by
  refine mk_Ct 8 false [some (.ref 13), none, none] (by decide) rfl (by decide) (Nat.le_of_ble_eq_true rfl) rfl ?_
  refine mz_new (ci := 2) (fs := [.null]) (by simp only [d_Reproducer_newCard]) rfl w_new_8_59 rfl (by decide) (by decide) (by omega) ?_
  refine mz_go [4] 4 ?_
  simp only [mz_r0, mk_lit, mk_fin, mk_cat, mk_fit, mk_nar, mk_cls, mk_ty, mk_isr, List.mem_cons, List.not_mem_nil, or_false, or_true, false_or, true_or, Nat.reduceEqDiff, Nat.reduceAdd, Nat.reduceSub, Nat.reduceLT, Nat.reduceLeDiff, ↓reduceIte, if_true, if_false, List.getElem?_cons_zero, List.getElem?_cons_succ, List.set_cons_zero, List.set_cons_succ, List.length_cons, List.length_nil, mz_s1, mz_s2, mz_cl, true_and, and_true, false_and, and_false, List.append_nil, mk_b0, mk_b1, mk_b2, mk_bn, Value.int.injEq, Option.toList_some, Option.toList_none, List.cons_append, List.nil_append, Classical.not_not, Option.some.injEq, reduceCtorEq, ne_eq, not_true_eq_false, not_false_eq_true, false_implies, true_implies, ev_32, mz_rl d_Reproducer_newCard_3, nF_8]
  refine mz_callI (by simp only [d_Reproducer_newCard_4, Nat.reduceAdd]) g_8_74 rfl (fun _ _ h => h) (c_Card_init G X (n + 1) _ (a := n) (mz_u_s f n (.inr (2, [.null]))) (by omega) (by omega)) (by decide) (Nat.le_of_ble_eq_true rfl) rfl ?_; rintro v_ n_ f_ ⟨rfl, rfl, rfl⟩
  refine mz_go [10] 12 ?_
  simp only [mz_r0, mk_lit, mk_fin, mk_cat, mk_fit, mk_nar, mk_cls, mk_ty, mk_isr, List.mem_cons, List.not_mem_nil, or_false, or_true, false_or, true_or, Nat.reduceEqDiff, Nat.reduceAdd, Nat.reduceSub, Nat.reduceLT, Nat.reduceLeDiff, ↓reduceIte, if_true, if_false, List.getElem?_cons_zero, List.getElem?_cons_succ, List.set_cons_zero, List.set_cons_succ, List.length_cons, List.length_nil, mz_s1, mz_s2, mz_cl, true_and, and_true, false_and, and_false, List.append_nil, mk_b0, mk_b1, mk_b2, mk_bn, Value.int.injEq, Option.toList_some, Option.toList_none, List.cons_append, List.nil_append, Classical.not_not, Option.some.injEq, reduceCtorEq, ne_eq, not_true_eq_false, not_false_eq_true, false_implies, true_implies, ev_47, ev_0, ev_43, mz_rl d_Reproducer_newCard_7, mz_rl d_Reproducer_newCard_8, mz_rl d_Reproducer_newCard_9, nF_8]
  rw [mz_uc _ (show n + 1 ≠ n by omega), mz_uu]
  have := l_Reproducer_newCard G X (n + 1 + 1) (mz_u f n (.inr (2, [.ref (n + 1)]))) (x := n) (q := q) (cl := cl) (g := g) (by rw [mz_u_n (by omega)]; exact h13) (by rw [mz_u_n (by omega)]; exact h14) (by rw [mz_u_n (by omega)]; exact h15) hn (mz_u_s _ _ _) hg 16 0 (by omega)
  rw [cpy_0] at this
  exact this
theorem Cd_new {f : mz_H} {K : Nat} {s : Nat → Nat → Nat} (h : Cd f K s) {t : Nat → Nat} (ht : ∀ j, j < 16 → sg (t j)) : Cd (mz_u (mz_u f (172 + 2 * K) (.inr (2, [.ref (172 + 2 * K + 1)]))) (172 + 2 * K + 1) (aI 16 (fun j => nI (t j)))) (K + 1) (va_up s K t) := by
  intro k hk
  by_cases e : k = K
  · subst e
    have e2 : va_up s k t k = t := by simp [va_up]
    rw [mz_u_n (by omega), mz_u_s, show 173 + 2 * k = 172 + 2 * k + 1 by omega, mz_u_s, e2]
    exact ⟨rfl, rfl, ht⟩
  · rw [mz_u_n (by omega), mz_u_n (by omega), mz_u_n (by omega), mz_u_n (by omega)]
    have e2 : va_up s K t k = s k := by simp [va_up, e]
    rw [e2]
    exact h k (by omega)
theorem nwc_sg {g : Nat → Int32} (hg : ∀ k, k < 16 → g k = -1 ∨ ∃ c, sg c ∧ g k = nI c) : ∀ j, j < 16 → sg (cpy (nwc g) (fun _ => 0) 16 j) := by
  intro j hj
  rw [cpy_lt hj]
  unfold nwc
  by_cases h : g j = -1
  · rw [if_pos h]; exact Or.inl rfl
  · rw [if_neg h]; exact (tn_sg (hg j hj) h).1
end
section
theorem pwN : ∀ k, k < 7 → mk_pw k = nI (10 ^ k) := by decide +kernel
/-- a digit out of a number's sign -/
def dgz (c : Nat) : Nat := if c = 32 then 0 else dgN c
theorem dgz_eq {c : Nat} (hc : sg c) : (if dg c < nI 0 then nI 0 else dg c) = nI (dgz c) := by
  have hl : dgN c < 2 ^ 31 := by unfold sg at hc; unfold dgN; split; omega; split; omega; split <;> omega
  unfold dg dgz
  by_cases h : c = 32
  · rw [if_pos h, if_pos h]; decide
  · rw [if_neg h, if_neg h, if_neg]
    rw [mk_lt, mk_nti hl]
    have : (nI 0).toInt = 0 := by decide
    omega
theorem dgz_lt {c : Nat} (hc : sg c) (hz : zn c = 0) : dgz c < 10 := by
  unfold dgz dgN
  unfold zn at hz
  unfold sg at hc
  split
  · omega
  · split at hz
    · cases hz
    · split at hz
      · cases hz
      · split at hz
        · cases hz
        · rw [if_neg (by omega), if_neg (by omega), if_neg (by omega)]; omega
/-- the number in a field -/
def numN (s : Nat → Nat) : Nat → Nat → Nat → Option Nat
  | _, 0, acc => some acc
  | k, m + 1, acc => if zn (s k) = 0 then numN s (k + 1) m (acc * 10 + dgz (s k)) else none
def oL (o : Option Nat) : Int64 := match o with
  | some x => lN x
  | none => -1
theorem numN_lt {s : Nat → Nat} (hs : ∀ j, j < 16 → sg (s j)) : ∀ m k acc x, k + m ≤ 16 → numN s k m acc = some x → x < (acc + 1) * 10 ^ m := by
  intro m
  induction m with
  | zero => intro k acc x _ h; cases h; simp
  | succ m ih =>
    intro k acc x hk h
    unfold numN at h
    split at h
    · rename_i hz
      have h1 := ih (k + 1) _ x (by omega) h
      have h2 := dgz_lt (hs k (by omega)) hz
      have h3 : (acc * 10 + dgz (s k) + 1) * 10 ^ m ≤ (acc + 1) * 10 * 10 ^ m := Nat.mul_le_mul_right _ (by omega)
      rw [Nat.pow_succ, Nat.mul_comm (10 ^ m) 10, ← Nat.mul_assoc]
      omega
    · cases h
theorem l10 : (10 : Int64) = lN 10 := by decide
theorem l5 : (5 : Int64) = lN 5 := by decide
theorem l_Multiplier_numberIn (G : mz_G) (X : mz_E) (n : Nat) (f : mz_H) {x y K : Nat} {s : Nat → Nat → Nat} (hC : Cd f K s) (hx : x < K) (hy : y < 96) (hy2 : y % 16 + (y / 16 + 1) ≤ 16) (R : Option Nat) :
    ∀ m k acc w5, k + m = y % 16 + (y / 16 + 1) → numN (s x) k m acc = R → mz_X G X 12 false b_Multiplier_numberIn 6 (some .long) (r_Multiplier_numberIn 0 0) (fun v n' f' => v = some (.long (oL R)) ∧ n' = n ∧ f' = f) (fun _ _ _ => False) 8 [some (.ref (172 + 2 * x)), some (.int (nI y)), some (.long (lN acc)), none, some (.int (nI k)), w5] [] 0 0 n f := by
  have q := hC x hx
  intro m
  induction m with
  | zero =>
    intro k acc w5 hk hR
    refine mz_go [11] 12 ?_
    simp only [mz_r0, mk_lit, mk_fin, mk_cat, mk_fit, mk_nar, mk_cls, mk_ty, mk_isr, List.mem_cons, List.not_mem_nil, or_false, or_true, false_or, true_or, Nat.reduceEqDiff, Nat.reduceAdd, Nat.reduceSub, Nat.reduceLT, Nat.reduceLeDiff, ↓reduceIte, if_true, if_false, List.getElem?_cons_zero, List.getElem?_cons_succ, List.set_cons_zero, List.set_cons_succ, List.length_cons, List.length_nil, mz_s1, mz_s2, mz_cl, true_and, and_true, false_and, and_false, List.append_nil, mk_b0, mk_b1, mk_b2, mk_bn, Value.int.injEq, Option.toList_some, Option.toList_none, List.cons_append, List.nil_append, Classical.not_not, Option.some.injEq, reduceCtorEq, ne_eq, not_true_eq_false, not_false_eq_true, false_implies, true_implies, ev_36, ev_37, mz_rl d_Multiplier_numberIn_8, mz_rl d_Multiplier_numberIn_10, nF_12]
    refine mz_callS (by simp only [d_Multiplier_numberIn_11, Nat.reduceAdd]) g_12_63 rfl (fun _ _ h => h) (c_Office_endOf G X n f hy) (by decide) (Nat.le_of_ble_eq_true rfl) rfl ?_; intro v_ n_ f_ h_; obtain ⟨rfl, hn_, hf_⟩ := h_; replace hn_ := hn_.symm; replace hf_ := hf_.symm; subst hn_; subst hf_
    refine mz_go [8] 12 ?_
    simp only [mz_r0, mk_lit, mk_fin, mk_cat, mk_fit, mk_nar, mk_cls, mk_ty, mk_isr, List.mem_cons, List.not_mem_nil, or_false, or_true, false_or, true_or, Nat.reduceEqDiff, Nat.reduceAdd, Nat.reduceSub, Nat.reduceLT, Nat.reduceLeDiff, ↓reduceIte, if_true, if_false, List.getElem?_cons_zero, List.getElem?_cons_succ, List.set_cons_zero, List.set_cons_succ, List.length_cons, List.length_nil, mz_s1, mz_s2, mz_cl, true_and, and_true, false_and, and_false, List.append_nil, mk_b0, mk_b1, mk_b2, mk_bn, Value.int.injEq, Option.toList_some, Option.toList_none, List.cons_append, List.nil_append, Classical.not_not, Option.some.injEq, reduceCtorEq, ne_eq, not_true_eq_false, not_false_eq_true, false_implies, true_implies, ev_56, ev_41, ev_79, ft_2_0, fn_2_0, ev_36, ev_68, ev_42, ev_39, ev_65, mz_rl d_Multiplier_numberIn_14, mz_rl d_Multiplier_numberIn_17, mz_rl d_Multiplier_numberIn_18, mz_rl d_Multiplier_numberIn_21, mz_rl d_Multiplier_numberIn_23, mz_rl d_Multiplier_numberIn_24, mz_rl d_Multiplier_numberIn_26, mz_rl d_Multiplier_numberIn_28, mz_rl d_Multiplier_numberIn_61, mz_rl d_Multiplier_numberIn_62, j_Multiplier_numberIn_14, nF_12, nI_leI (show y % 16 + (y / 16 + 1) < 2 ^ 31 by omega) (show k < 2 ^ 31 by omega), show y % 16 + (y / 16 + 1) ≤ k by omega]
    rw [← hR]; rfl
  | succ m ih =>
    intro k acc w5 hk hR
    have hk16 : k < 16 := by omega
    have hsg := q.2.2 k hk16
    unfold numN at hR
    refine mz_go [11] 12 ?_
    simp only [mz_r0, mk_lit, mk_fin, mk_cat, mk_fit, mk_nar, mk_cls, mk_ty, mk_isr, List.mem_cons, List.not_mem_nil, or_false, or_true, false_or, true_or, Nat.reduceEqDiff, Nat.reduceAdd, Nat.reduceSub, Nat.reduceLT, Nat.reduceLeDiff, ↓reduceIte, if_true, if_false, List.getElem?_cons_zero, List.getElem?_cons_succ, List.set_cons_zero, List.set_cons_succ, List.length_cons, List.length_nil, mz_s1, mz_s2, mz_cl, true_and, and_true, false_and, and_false, List.append_nil, mk_b0, mk_b1, mk_b2, mk_bn, Value.int.injEq, Option.toList_some, Option.toList_none, List.cons_append, List.nil_append, Classical.not_not, Option.some.injEq, reduceCtorEq, ne_eq, not_true_eq_false, not_false_eq_true, false_implies, true_implies, ev_36, ev_37, mz_rl d_Multiplier_numberIn_8, mz_rl d_Multiplier_numberIn_10, nF_12]
    refine mz_callS (by simp only [d_Multiplier_numberIn_11, Nat.reduceAdd]) g_12_63 rfl (fun _ _ h => h) (c_Office_endOf G X n f hy) (by decide) (Nat.le_of_ble_eq_true rfl) rfl ?_; intro v_ n_ f_ h_; obtain ⟨rfl, hn_, hf_⟩ := h_; replace hn_ := hn_.symm; replace hf_ := hf_.symm; subst hn_; subst hf_
    refine mz_go [28] 12 ?_
    simp only [mz_r0, mk_lit, mk_fin, mk_cat, mk_fit, mk_nar, mk_cls, mk_ty, mk_isr, List.mem_cons, List.not_mem_nil, or_false, or_true, false_or, true_or, Nat.reduceEqDiff, Nat.reduceAdd, Nat.reduceSub, Nat.reduceLT, Nat.reduceLeDiff, ↓reduceIte, if_true, if_false, List.getElem?_cons_zero, List.getElem?_cons_succ, List.set_cons_zero, List.set_cons_succ, List.length_cons, List.length_nil, mz_s1, mz_s2, mz_cl, true_and, and_true, false_and, and_false, List.append_nil, mk_b0, mk_b1, mk_b2, mk_bn, Value.int.injEq, Option.toList_some, Option.toList_none, List.cons_append, List.nil_append, Classical.not_not, Option.some.injEq, reduceCtorEq, ne_eq, not_true_eq_false, not_false_eq_true, false_implies, true_implies, ev_56, ev_41, ev_79, ft_2_0, fn_2_0, ev_36, ev_68, ev_42, ev_39, ev_65, mz_rl d_Multiplier_numberIn_14, mz_rl d_Multiplier_numberIn_17, mz_rl d_Multiplier_numberIn_18, mz_rl d_Multiplier_numberIn_21, mz_rl d_Multiplier_numberIn_23, mz_rl d_Multiplier_numberIn_24, mz_rl d_Multiplier_numberIn_26, mz_rl d_Multiplier_numberIn_61, mz_rl d_Multiplier_numberIn_62, j_Multiplier_numberIn_14, nF_12, nI_leI (show y % 16 + (y / 16 + 1) < 2 ^ 31 by omega) (show k < 2 ^ 31 by omega), show ¬ y % 16 + (y / 16 + 1) ≤ k by omega, q.1, q.2.1, vp_in_nI hk16 (show 16 < 2 ^ 31 by decide), nI_clamp (show k < 2 ^ 31 by omega)]
    refine mz_callS (by simp only [d_Multiplier_numberIn_28, Nat.reduceAdd]) g_12_71 rfl (fun _ _ h => h) (c_Office_zoneOf G X n f hsg) (by decide) (Nat.le_of_ble_eq_true rfl) rfl ?_; intro v_ n_ f_ h_; obtain ⟨rfl, hn_, hf_⟩ := h_; replace hn_ := hn_.symm; replace hf_ := hf_.symm; subst hn_; subst hf_
    have hz := zn_lt (s x k)
    have z0 : (nI (zn (s x k)) = 0) = (zn (s x k) = 0) := by
      rw [mk_eq, mk_nti (show zn (s x k) < 2 ^ 31 by omega)]; simp
    refine mz_go [45] 12 ?_
    simp only [mz_r0, mk_lit, mk_fin, mk_cat, mk_fit, mk_nar, mk_cls, mk_ty, mk_isr, List.mem_cons, List.not_mem_nil, or_false, or_true, false_or, true_or, Nat.reduceEqDiff, Nat.reduceAdd, Nat.reduceSub, Nat.reduceLT, Nat.reduceLeDiff, ↓reduceIte, if_true, if_false, List.getElem?_cons_zero, List.getElem?_cons_succ, List.set_cons_zero, List.set_cons_succ, List.length_cons, List.length_nil, mz_s1, mz_s2, mz_cl, true_and, and_true, false_and, and_false, List.append_nil, mk_b0, mk_b1, mk_b2, mk_bn, Value.int.injEq, Option.toList_some, Option.toList_none, List.cons_append, List.nil_append, Classical.not_not, Option.some.injEq, reduceCtorEq, ne_eq, not_true_eq_false, not_false_eq_true, false_implies, true_implies, ev_49, ev_83, ev_65, ev_39, ev_17, ev_36, mz_rl d_Multiplier_numberIn_31, mz_rl d_Multiplier_numberIn_34, mz_rl d_Multiplier_numberIn_37, mz_rl d_Multiplier_numberIn_38, mz_rl d_Multiplier_numberIn_39, mz_rl d_Multiplier_numberIn_42, mz_rl d_Multiplier_numberIn_43, j_Multiplier_numberIn_31, nF_12, z0, mk_con]
    refine ⟨fun h => ?_, fun h => ?_⟩
    · rw [if_pos h] at hR
      refine mz_callS (by simp only [d_Multiplier_numberIn_45, Nat.reduceAdd]) g_12_74 rfl (fun _ _ h => h) (c_Office_digitOf G X n f hsg) (by decide) (Nat.le_of_ble_eq_true rfl) rfl ?_; intro v_ n_ f_ h_; obtain ⟨rfl, hn_, hf_⟩ := h_; replace hn_ := hn_.symm; replace hf_ := hf_.symm; subst hn_; subst hf_
      refine mz_go [49] 12 ?_
      simp only [mz_r0, mk_lit, mk_fin, mk_cat, mk_fit, mk_nar, mk_cls, mk_ty, mk_isr, List.mem_cons, List.not_mem_nil, or_false, or_true, false_or, true_or, Nat.reduceEqDiff, Nat.reduceAdd, Nat.reduceSub, Nat.reduceLT, Nat.reduceLeDiff, ↓reduceIte, if_true, if_false, List.getElem?_cons_zero, List.getElem?_cons_succ, List.set_cons_zero, List.set_cons_succ, List.length_cons, List.length_nil, mz_s1, mz_s2, mz_cl, true_and, and_true, false_and, and_false, List.append_nil, mk_b0, mk_b1, mk_b2, mk_bn, Value.int.injEq, Option.toList_some, Option.toList_none, List.cons_append, List.nil_append, Classical.not_not, Option.some.injEq, reduceCtorEq, ne_eq, not_true_eq_false, not_false_eq_true, false_implies, true_implies, ev_0, mz_rl d_Multiplier_numberIn_48, nF_12]
      refine mz_mmax (by simp only [d_Multiplier_numberIn, Nat.reduceAdd]) w_max_12 (by decide) (Nat.le_of_ble_eq_true rfl) ?_
      rw [dgz_eq hsg]
      have hd := dgz_lt hsg h
      refine mz_go [8] 12 ?_
      simp only [mz_r0, mk_lit, mk_fin, mk_cat, mk_fit, mk_nar, mk_cls, mk_ty, mk_isr, List.mem_cons, List.not_mem_nil, or_false, or_true, false_or, true_or, Nat.reduceEqDiff, Nat.reduceAdd, Nat.reduceSub, Nat.reduceLT, Nat.reduceLeDiff, ↓reduceIte, if_true, if_false, List.getElem?_cons_zero, List.getElem?_cons_succ, List.set_cons_zero, List.set_cons_succ, List.length_cons, List.length_nil, mz_s1, mz_s2, mz_cl, true_and, and_true, false_and, and_false, List.append_nil, mk_b0, mk_b1, mk_b2, mk_bn, Value.int.injEq, Option.toList_some, Option.toList_none, List.cons_append, List.nil_append, Classical.not_not, Option.some.injEq, reduceCtorEq, ne_eq, not_true_eq_false, not_false_eq_true, false_implies, true_implies, ev_28, ev_15, ev_45, ev_48, ev_61, mz_rl d_Multiplier_numberIn_52, mz_rl d_Multiplier_numberIn_53, mz_rl d_Multiplier_numberIn_54, mz_rl d_Multiplier_numberIn_55, mz_rl d_Multiplier_numberIn_58, j_Multiplier_numberIn_58, nF_12, l10, nI_l (show dgz (s x k) < 2 ^ 31 by omega), lN_mul, lN_add, nI_add]
      exact ih (k + 1) _ _ (by omega) hR
    · rw [if_neg h] at hR
      rw [← hR]; rfl
theorem c_Multiplier_numberIn (G : mz_G) (X : mz_E) (n : Nat) (f : mz_H) {x y K : Nat} {s : Nat → Nat → Nat} (hC : Cd f K s) (hx : x < K) (hy : y < 96) (hy2 : y % 16 + (y / 16 + 1) ≤ 16) :
    mz_Ct G X y_Multiplier_numberIn b_Multiplier_numberIn 6 (some .long) (r_Multiplier_numberIn 0 0) [.ref (172 + 2 * x), .int (nI y)] n f (fun v n' f' => v = some (.long (oL (numN (s x) (y % 16) (y / 16 + 1) 0))) ∧ n' = n ∧ f' = f) := by
  refine mk_Ct 12 false [some (.ref (172 + 2 * x)), some (.int (nI y)), none, none, none, none] (by decide) rfl (by decide) (Nat.le_of_ble_eq_true rfl) rfl ?_
  have l0 : Int64.ofNat ((0 : Fin 2) : Nat) = lN 0 := rfl
  refine mz_go [3] 12 ?_
  simp only [mz_r0, mk_lit, mk_fin, mk_cat, mk_fit, mk_nar, mk_cls, mk_ty, mk_isr, List.mem_cons, List.not_mem_nil, or_false, or_true, false_or, true_or, Nat.reduceEqDiff, Nat.reduceAdd, Nat.reduceSub, Nat.reduceLT, Nat.reduceLeDiff, ↓reduceIte, if_true, if_false, List.getElem?_cons_zero, List.getElem?_cons_succ, List.set_cons_zero, List.set_cons_succ, List.length_cons, List.length_nil, mz_s1, mz_s2, mz_cl, true_and, and_true, false_and, and_false, List.append_nil, mk_b0, mk_b1, mk_b2, mk_bn, Value.int.injEq, Option.toList_some, Option.toList_none, List.cons_append, List.nil_append, Classical.not_not, Option.some.injEq, reduceCtorEq, ne_eq, not_true_eq_false, not_false_eq_true, false_implies, true_implies, ev_3, ev_45, ev_37, mz_rl d_Multiplier_numberIn_0, mz_rl d_Multiplier_numberIn_1, mz_rl d_Multiplier_numberIn_2, nF_12, l0]
  refine mz_callS (by simp only [d_Multiplier_numberIn_3, Nat.reduceAdd]) g_12_60 rfl (fun _ _ h => h) (c_Office_startOf G X n f hy) (by decide) (Nat.le_of_ble_eq_true rfl) rfl ?_; intro v_ n_ f_ h_; obtain ⟨rfl, hn_, hf_⟩ := h_; replace hn_ := hn_.symm; replace hf_ := hf_.symm; subst hn_; subst hf_
  refine mz_go [8] 12 ?_
  simp only [mz_r0, mk_lit, mk_fin, mk_cat, mk_fit, mk_nar, mk_cls, mk_ty, mk_isr, List.mem_cons, List.not_mem_nil, or_false, or_true, false_or, true_or, Nat.reduceEqDiff, Nat.reduceAdd, Nat.reduceSub, Nat.reduceLT, Nat.reduceLeDiff, ↓reduceIte, if_true, if_false, List.getElem?_cons_zero, List.getElem?_cons_succ, List.set_cons_zero, List.set_cons_succ, List.length_cons, List.length_nil, mz_s1, mz_s2, mz_cl, true_and, and_true, false_and, and_false, List.append_nil, mk_b0, mk_b1, mk_b2, mk_bn, Value.int.injEq, Option.toList_some, Option.toList_none, List.cons_append, List.nil_append, Classical.not_not, Option.some.injEq, reduceCtorEq, ne_eq, not_true_eq_false, not_false_eq_true, false_implies, true_implies, ev_42, mz_rl d_Multiplier_numberIn_6, nF_12]
  exact l_Multiplier_numberIn G X n f hC hx hy hy2 _ _ _ _ _ rfl rfl
/-- the sign of a number at a column of a field -/
def snN (r y k : Nat) : Nat := 48 + r / 10 ^ (y % 16 + (y / 16 + 1) - 1 - k) % 10
theorem snN_sg (r y k : Nat) : sg (snN r y k) := by unfold snN sg; omega
theorem pw10 : ∀ k, k < 7 → 10 ^ k < 2 ^ 31 := by decide
theorem c_Multiplier_signOfNumber (G : mz_G) (n : Nat) (f : mz_H) {r y k : Nat} (hE : f 1000000000001 = mz_d) (hr : r < 2 ^ 31) (hy : y < 96) (hk : y % 16 ≤ k) (hk2 : k < y % 16 + (y / 16 + 1)) :
    mz_Ct G mk_P y_Multiplier_signOfNumber b_Multiplier_signOfNumber 3 (some .int) (r_Multiplier_signOfNumber 0 0) [.int (nI r), .int (nI y), .int (nI k)] n f (fun v n' f' => v = some (.int (nI (snN r y k))) ∧ n' = n ∧ f' = f) := by
  refine mk_Ct 12 false [some (.int (nI r)), some (.int (nI y)), some (.int (nI k))] (by decide) rfl (by decide) (Nat.le_of_ble_eq_true rfl) rfl ?_
  refine mz_go [7] 12 ?_
  simp only [mz_r0, mk_lit, mk_fin, mk_cat, mk_fit, mk_nar, mk_cls, mk_ty, mk_isr, List.mem_cons, List.not_mem_nil, or_false, or_true, false_or, true_or, Nat.reduceEqDiff, Nat.reduceAdd, Nat.reduceSub, Nat.reduceLT, Nat.reduceLeDiff, ↓reduceIte, if_true, if_false, List.getElem?_cons_zero, List.getElem?_cons_succ, List.set_cons_zero, List.set_cons_succ, List.length_cons, List.length_nil, mz_s1, mz_s2, mz_cl, true_and, and_true, false_and, and_false, List.append_nil, mk_b0, mk_b1, mk_b2, mk_bn, Value.int.injEq, Option.toList_some, Option.toList_none, List.cons_append, List.nil_append, Classical.not_not, Option.some.injEq, reduceCtorEq, ne_eq, not_true_eq_false, not_false_eq_true, false_implies, true_implies, ev_1, ev_37, ev_81, mz_rl d_Multiplier_signOfNumber_0, mz_rl d_Multiplier_signOfNumber_2, mz_rl d_Multiplier_signOfNumber_3, mz_rl d_Multiplier_signOfNumber_6, nF_12, mk_sta, mk_P1]
  refine mz_callS (by simp only [d_Multiplier_signOfNumber_7, Nat.reduceAdd]) g_12_63 rfl (fun _ _ h => h) (c_Office_endOf G mk_P n f hy) (by decide) (Nat.le_of_ble_eq_true rfl) rfl ?_; intro v_ n_ f_ h_; obtain ⟨rfl, hn_, hf_⟩ := h_; replace hn_ := hn_.symm; replace hf_ := hf_.symm; subst hn_; subst hf_
  have h7 : y % 16 + (y / 16 + 1) - 1 - k < 7 := by omega
  have hp := pw10 _ h7
  have hpos : 0 < 10 ^ (y % 16 + (y / 16 + 1) - 1 - k) := Nat.pos_of_ne_zero (by simp)
  have hdl : r / 10 ^ (y % 16 + (y / 16 + 1) - 1 - k) < 2 ^ 31 := Nat.lt_of_le_of_lt (Nat.div_le_self _ _) hr
  have hpn := mk_pwn h7
  rw [pwN _ h7] at hpn
  refine mz_go [] 20 ?_
  simp only [mz_r0, mk_lit, mk_fin, mk_cat, mk_fit, mk_nar, mk_cls, mk_ty, mk_isr, List.mem_cons, List.not_mem_nil, or_false, or_true, false_or, true_or, Nat.reduceEqDiff, Nat.reduceAdd, Nat.reduceSub, Nat.reduceLT, Nat.reduceLeDiff, ↓reduceIte, if_true, if_false, List.getElem?_cons_zero, List.getElem?_cons_succ, List.set_cons_zero, List.set_cons_succ, List.length_cons, List.length_nil, mz_s1, mz_s2, mz_cl, true_and, and_true, false_and, and_false, List.append_nil, mk_b0, mk_b1, mk_b2, mk_bn, Value.int.injEq, Option.toList_some, Option.toList_none, List.cons_append, List.nil_append, Classical.not_not, Option.some.injEq, reduceCtorEq, ne_eq, not_true_eq_false, not_false_eq_true, false_implies, true_implies, ev_0, ev_6, ev_37, ev_68, ev_13, ev_1, ev_14, ev_5, ev_64, mz_rl d_Multiplier_signOfNumber_10, mz_rl d_Multiplier_signOfNumber_11, mz_rl d_Multiplier_signOfNumber_12, mz_rl d_Multiplier_signOfNumber_13, mz_rl d_Multiplier_signOfNumber_14, mz_rl d_Multiplier_signOfNumber_15, mz_rl d_Multiplier_signOfNumber_16, mz_rl d_Multiplier_signOfNumber_18, mz_rl d_Multiplier_signOfNumber_19, mz_rl d_Multiplier_signOfNumber_20, nF_12, hE, mz_d, mk_P1, pk_sub (show 1 ≤ y % 16 + (y / 16 + 1) by omega), pk_sub (show k ≤ y % 16 + (y / 16 + 1) - 1 by omega), vp_in_nI h7 (show 7 < 2 ^ 31 by decide), nI_clamp (show y % 16 + (y / 16 + 1) - 1 - k < 2 ^ 31 by omega), pwN _ h7, hpn, pk_div hr hpos hp, mk_ne10, pk_rem hdl (show 0 < 10 by decide) (show 10 < 2 ^ 31 by decide), nI_add, snN]
def ctB (s : Nat → Nat) (r y : Nat) : Nat → Nat → Bool
  | _, 0 => true
  | k, m + 1 => if s k = 32 ∨ s k = snN r y k then ctB s r y (k + 1) m else false
theorem l_Multiplier_canTakeNumber (G : mz_G) (n : Nat) (f : mz_H) {x y r K : Nat} {s : Nat → Nat → Nat} (hE : f 1000000000001 = mz_d) (hC : Cd f K s) (hx : x < K) (hr : r < 2 ^ 31) (hy : y < 96) (hy2 : y % 16 + (y / 16 + 1) ≤ 16) (R : Bool) :
    ∀ m k, y % 16 ≤ k → k + m = y % 16 + (y / 16 + 1) → ctB (s x) r y k m = R → mz_X G mk_P 12 false b_Multiplier_canTakeNumber 4 (some .boolean) (r_Multiplier_canTakeNumber 0 0) (fun v n' f' => v = some (.int (mk_b (R = true))) ∧ n' = n ∧ f' = f) (fun _ _ _ => False) 5 [some (.ref (172 + 2 * x)), some (.int (nI y)), some (.int (nI r)), some (.int (nI k))] [] 0 0 n f := by
  have q := hC x hx
  intro m
  induction m with
  | zero =>
    intro k h0 hk hR
    refine mz_go [7] 12 ?_
    simp only [mz_r0, mk_lit, mk_fin, mk_cat, mk_fit, mk_nar, mk_cls, mk_ty, mk_isr, List.mem_cons, List.not_mem_nil, or_false, or_true, false_or, true_or, Nat.reduceEqDiff, Nat.reduceAdd, Nat.reduceSub, Nat.reduceLT, Nat.reduceLeDiff, ↓reduceIte, if_true, if_false, List.getElem?_cons_zero, List.getElem?_cons_succ, List.set_cons_zero, List.set_cons_succ, List.length_cons, List.length_nil, mz_s1, mz_s2, mz_cl, true_and, and_true, false_and, and_false, List.append_nil, mk_b0, mk_b1, mk_b2, mk_bn, Value.int.injEq, Option.toList_some, Option.toList_none, List.cons_append, List.nil_append, Classical.not_not, Option.some.injEq, reduceCtorEq, ne_eq, not_true_eq_false, not_false_eq_true, false_implies, true_implies, ev_37, mz_rl d_Multiplier_canTakeNumber_5, mz_rl d_Multiplier_canTakeNumber_6, nF_12]
    refine mz_callS (by simp only [d_Multiplier_canTakeNumber_7, Nat.reduceAdd]) g_12_63 rfl (fun _ _ h => h) (c_Office_endOf G mk_P n f hy) (by decide) (Nat.le_of_ble_eq_true rfl) rfl ?_; intro v_ n_ f_ h_; obtain ⟨rfl, hn_, hf_⟩ := h_; replace hn_ := hn_.symm; replace hf_ := hf_.symm; subst hn_; subst hf_
    refine mz_go [5] 12 ?_
    simp only [mz_r0, mk_lit, mk_fin, mk_cat, mk_fit, mk_nar, mk_cls, mk_ty, mk_isr, List.mem_cons, List.not_mem_nil, or_false, or_true, false_or, true_or, Nat.reduceEqDiff, Nat.reduceAdd, Nat.reduceSub, Nat.reduceLT, Nat.reduceLeDiff, ↓reduceIte, if_true, if_false, List.getElem?_cons_zero, List.getElem?_cons_succ, List.set_cons_zero, List.set_cons_succ, List.length_cons, List.length_nil, mz_s1, mz_s2, mz_cl, true_and, and_true, false_and, and_false, List.append_nil, mk_b0, mk_b1, mk_b2, mk_bn, Value.int.injEq, Option.toList_some, Option.toList_none, List.cons_append, List.nil_append, Classical.not_not, Option.some.injEq, reduceCtorEq, ne_eq, not_true_eq_false, not_false_eq_true, false_implies, true_implies, ev_56, ev_41, ev_37, ev_0, ev_64, mz_rl d_Multiplier_canTakeNumber_10, mz_rl d_Multiplier_canTakeNumber_13, mz_rl d_Multiplier_canTakeNumber_14, mz_rl d_Multiplier_canTakeNumber_15, mz_rl d_Multiplier_canTakeNumber_16, mz_rl d_Multiplier_canTakeNumber_17, mz_rl d_Multiplier_canTakeNumber_18, mz_rl d_Multiplier_canTakeNumber_35, mz_rl d_Multiplier_canTakeNumber_36, j_Multiplier_canTakeNumber_10, nF_12, nI_leI (show y % 16 + (y / 16 + 1) < 2 ^ 31 by omega) (show k < 2 ^ 31 by omega), show y % 16 + (y / 16 + 1) ≤ k by omega]
    exact hR.symm
  | succ m ih =>
    intro k h0 hk hR
    unfold ctB at hR
    have hsn := sg_lt (snN_sg r y k)
    refine mz_go [7] 12 ?_
    simp only [mz_r0, mk_lit, mk_fin, mk_cat, mk_fit, mk_nar, mk_cls, mk_ty, mk_isr, List.mem_cons, List.not_mem_nil, or_false, or_true, false_or, true_or, Nat.reduceEqDiff, Nat.reduceAdd, Nat.reduceSub, Nat.reduceLT, Nat.reduceLeDiff, ↓reduceIte, if_true, if_false, List.getElem?_cons_zero, List.getElem?_cons_succ, List.set_cons_zero, List.set_cons_succ, List.length_cons, List.length_nil, mz_s1, mz_s2, mz_cl, true_and, and_true, false_and, and_false, List.append_nil, mk_b0, mk_b1, mk_b2, mk_bn, Value.int.injEq, Option.toList_some, Option.toList_none, List.cons_append, List.nil_append, Classical.not_not, Option.some.injEq, reduceCtorEq, ne_eq, not_true_eq_false, not_false_eq_true, false_implies, true_implies, ev_37, mz_rl d_Multiplier_canTakeNumber_5, mz_rl d_Multiplier_canTakeNumber_6, nF_12]
    refine mz_callS (by simp only [d_Multiplier_canTakeNumber_7, Nat.reduceAdd]) g_12_63 rfl (fun _ _ h => h) (c_Office_endOf G mk_P n f hy) (by decide) (Nat.le_of_ble_eq_true rfl) rfl ?_; intro v_ n_ f_ h_; obtain ⟨rfl, hn_, hf_⟩ := h_; replace hn_ := hn_.symm; replace hf_ := hf_.symm; subst hn_; subst hf_
    refine mz_go [18] 12 ?_
    simp only [mz_r0, mk_lit, mk_fin, mk_cat, mk_fit, mk_nar, mk_cls, mk_ty, mk_isr, List.mem_cons, List.not_mem_nil, or_false, or_true, false_or, true_or, Nat.reduceEqDiff, Nat.reduceAdd, Nat.reduceSub, Nat.reduceLT, Nat.reduceLeDiff, ↓reduceIte, if_true, if_false, List.getElem?_cons_zero, List.getElem?_cons_succ, List.set_cons_zero, List.set_cons_succ, List.length_cons, List.length_nil, mz_s1, mz_s2, mz_cl, true_and, and_true, false_and, and_false, List.append_nil, mk_b0, mk_b1, mk_b2, mk_bn, Value.int.injEq, Option.toList_some, Option.toList_none, List.cons_append, List.nil_append, Classical.not_not, Option.some.injEq, reduceCtorEq, ne_eq, not_true_eq_false, not_false_eq_true, false_implies, true_implies, ev_56, ev_41, ev_37, ev_0, ev_64, mz_rl d_Multiplier_canTakeNumber_10, mz_rl d_Multiplier_canTakeNumber_13, mz_rl d_Multiplier_canTakeNumber_14, mz_rl d_Multiplier_canTakeNumber_15, mz_rl d_Multiplier_canTakeNumber_16, mz_rl d_Multiplier_canTakeNumber_17, mz_rl d_Multiplier_canTakeNumber_35, mz_rl d_Multiplier_canTakeNumber_36, j_Multiplier_canTakeNumber_10, nF_12, nI_leI (show y % 16 + (y / 16 + 1) < 2 ^ 31 by omega) (show k < 2 ^ 31 by omega), show ¬ y % 16 + (y / 16 + 1) ≤ k by omega]
    refine mz_callS (by simp only [d_Multiplier_canTakeNumber_18, Nat.reduceAdd]) g_12_82 rfl (fun _ _ h => h) (c_Multiplier_signOfNumber G n f hE hr hy h0 (show k < y % 16 + (y / 16 + 1) by omega)) (by decide) (Nat.le_of_ble_eq_true rfl) rfl ?_; intro v_ n_ f_ h_; obtain ⟨rfl, hn_, hf_⟩ := h_; replace hn_ := hn_.symm; replace hf_ := hf_.symm; subst hn_; subst hf_
    refine mz_callV (by simp only [d_Multiplier_canTakeNumber_21, Nat.reduceAdd]) g_12_86 rfl (fun _ _ h => h) (c_Card_canTake G mk_P n f q.1 q.2.1 (show k < 16 by omega) (q.2.2 k (by omega)) (show snN r y k < 2 ^ 31 by omega)) q.1 rfl rfl (by decide) (Nat.le_of_ble_eq_true rfl) rfl ?_; intro v_ n_ f_ h_; obtain ⟨rfl, hn_, hf_⟩ := h_; replace hn_ := hn_.symm; replace hf_ := hf_.symm; subst hn_; subst hf_
    refine mz_go [5] 12 ?_
    simp only [mz_r0, mk_lit, mk_fin, mk_cat, mk_fit, mk_nar, mk_cls, mk_ty, mk_isr, List.mem_cons, List.not_mem_nil, or_false, or_true, false_or, true_or, Nat.reduceEqDiff, Nat.reduceAdd, Nat.reduceSub, Nat.reduceLT, Nat.reduceLeDiff, ↓reduceIte, if_true, if_false, List.getElem?_cons_zero, List.getElem?_cons_succ, List.set_cons_zero, List.set_cons_succ, List.length_cons, List.length_nil, mz_s1, mz_s2, mz_cl, true_and, and_true, false_and, and_false, List.append_nil, mk_b0, mk_b1, mk_b2, mk_bn, Value.int.injEq, Option.toList_some, Option.toList_none, List.cons_append, List.nil_append, Classical.not_not, Option.some.injEq, reduceCtorEq, ne_eq, not_true_eq_false, not_false_eq_true, false_implies, true_implies, ev_51, ev_0, ev_64, ev_48, ev_61, mz_rl d_Multiplier_canTakeNumber_24, mz_rl d_Multiplier_canTakeNumber_27, mz_rl d_Multiplier_canTakeNumber_28, mz_rl d_Multiplier_canTakeNumber_29, mz_rl d_Multiplier_canTakeNumber_32, j_Multiplier_canTakeNumber_24, j_Multiplier_canTakeNumber_32, nF_12, nI_add]
    refine ⟨fun h => ?_, fun h => ?_⟩
    · rw [if_pos h] at hR
      exact ih (k + 1) (by omega) (by omega) hR
    · rw [if_neg h] at hR
      rw [← hR]; simp
theorem c_Multiplier_canTakeNumber (G : mz_G) (n : Nat) (f : mz_H) {x y r K : Nat} {s : Nat → Nat → Nat} (hE : f 1000000000001 = mz_d) (hC : Cd f K s) (hx : x < K) (hr : r < 2 ^ 31) (hy : y < 96) (hy2 : y % 16 + (y / 16 + 1) ≤ 16) :
    mz_Ct G mk_P y_Multiplier_canTakeNumber b_Multiplier_canTakeNumber 4 (some .boolean) (r_Multiplier_canTakeNumber 0 0) [.ref (172 + 2 * x), .int (nI y), .int (nI r)] n f (fun v n' f' => v = some (.int (mk_b (ctB (s x) r y (y % 16) (y / 16 + 1) = true))) ∧ n' = n ∧ f' = f) := by
  refine mk_Ct 12 false [some (.ref (172 + 2 * x)), some (.int (nI y)), some (.int (nI r)), none] (by decide) rfl (by decide) (Nat.le_of_ble_eq_true rfl) rfl ?_
  refine mz_go [1] 12 ?_
  simp only [mz_r0, mk_lit, mk_fin, mk_cat, mk_fit, mk_nar, mk_cls, mk_ty, mk_isr, List.mem_cons, List.not_mem_nil, or_false, or_true, false_or, true_or, Nat.reduceEqDiff, Nat.reduceAdd, Nat.reduceSub, Nat.reduceLT, Nat.reduceLeDiff, ↓reduceIte, if_true, if_false, List.getElem?_cons_zero, List.getElem?_cons_succ, List.set_cons_zero, List.set_cons_succ, List.length_cons, List.length_nil, mz_s1, mz_s2, mz_cl, true_and, and_true, false_and, and_false, List.append_nil, mk_b0, mk_b1, mk_b2, mk_bn, Value.int.injEq, Option.toList_some, Option.toList_none, List.cons_append, List.nil_append, Classical.not_not, Option.some.injEq, reduceCtorEq, ne_eq, not_true_eq_false, not_false_eq_true, false_implies, true_implies, ev_37, mz_rl d_Multiplier_canTakeNumber_0, nF_12]
  refine mz_callS (by simp only [d_Multiplier_canTakeNumber_1, Nat.reduceAdd]) g_12_60 rfl (fun _ _ h => h) (c_Office_startOf G mk_P n f hy) (by decide) (Nat.le_of_ble_eq_true rfl) rfl ?_; intro v_ n_ f_ h_; obtain ⟨rfl, hn_, hf_⟩ := h_; replace hn_ := hn_.symm; replace hf_ := hf_.symm; subst hn_; subst hf_
  refine mz_go [5] 12 ?_
  simp only [mz_r0, mk_lit, mk_fin, mk_cat, mk_fit, mk_nar, mk_cls, mk_ty, mk_isr, List.mem_cons, List.not_mem_nil, or_false, or_true, false_or, true_or, Nat.reduceEqDiff, Nat.reduceAdd, Nat.reduceSub, Nat.reduceLT, Nat.reduceLeDiff, ↓reduceIte, if_true, if_false, List.getElem?_cons_zero, List.getElem?_cons_succ, List.set_cons_zero, List.set_cons_succ, List.length_cons, List.length_nil, mz_s1, mz_s2, mz_cl, true_and, and_true, false_and, and_false, List.append_nil, mk_b0, mk_b1, mk_b2, mk_bn, Value.int.injEq, Option.toList_some, Option.toList_none, List.cons_append, List.nil_append, Classical.not_not, Option.some.injEq, reduceCtorEq, ne_eq, not_true_eq_false, not_false_eq_true, false_implies, true_implies, ev_43, mz_rl d_Multiplier_canTakeNumber_4, nF_12]
  exact l_Multiplier_canTakeNumber G n f hE hC hx hr hy hy2 _ _ _ (by omega) rfl rfl
/-- the number punched, up to column k -/
def pnN (s : Nat → Nat) (r y k : Nat) : Nat → Nat := fun j => if y % 16 ≤ j ∧ j < k then snN r y j else s j
theorem l_Multiplier_punchNumber (G : mz_G) (n : Nat) (f : mz_H) {x y r : Nat} {s : Nat → Nat} (hE : f 1000000000001 = mz_d) (h1 : f (172 + 2 * x) = .inr (2, [.ref (173 + 2 * x)])) (hx : x < 200) (hr : r < 2 ^ 31) (hy : y < 96) (hy2 : y % 16 + (y / 16 + 1) ≤ 16) :
    ∀ m k, y % 16 ≤ k → k + m = y % 16 + (y / 16 + 1) → mz_X G mk_P 12 false b_Multiplier_punchNumber 4 none (r_Multiplier_punchNumber 0 0) (fun v n' f' => v = none ∧ n' = n ∧ f' = mz_u f (173 + 2 * x) (aI 16 (fun j => nI (pnN s r y (y % 16 + (y / 16 + 1)) j)))) (fun _ _ _ => False) 5 [some (.ref (172 + 2 * x)), some (.int (nI y)), some (.int (nI r)), some (.int (nI k))] [] 0 0 n (mz_u f (173 + 2 * x) (aI 16 (fun j => nI (pnN s r y k j)))) := by
  intro m
  induction m with
  | zero =>
    intro k h0 hk
    have : k = y % 16 + (y / 16 + 1) := by omega
    subst this
    refine mz_go [7] 12 ?_
    simp only [mz_r0, mk_lit, mk_fin, mk_cat, mk_fit, mk_nar, mk_cls, mk_ty, mk_isr, List.mem_cons, List.not_mem_nil, or_false, or_true, false_or, true_or, Nat.reduceEqDiff, Nat.reduceAdd, Nat.reduceSub, Nat.reduceLT, Nat.reduceLeDiff, ↓reduceIte, if_true, if_false, List.getElem?_cons_zero, List.getElem?_cons_succ, List.set_cons_zero, List.set_cons_succ, List.length_cons, List.length_nil, mz_s1, mz_s2, mz_cl, true_and, and_true, false_and, and_false, List.append_nil, mk_b0, mk_b1, mk_b2, mk_bn, Value.int.injEq, Option.toList_some, Option.toList_none, List.cons_append, List.nil_append, Classical.not_not, Option.some.injEq, reduceCtorEq, ne_eq, not_true_eq_false, not_false_eq_true, false_implies, true_implies, ev_37, mz_rl d_Multiplier_punchNumber_5, mz_rl d_Multiplier_punchNumber_6, nF_12]
    refine mz_callS (by simp only [d_Multiplier_punchNumber_7, Nat.reduceAdd]) g_12_63 rfl (fun _ _ h => h) (c_Office_endOf G mk_P n _ hy) (by decide) (Nat.le_of_ble_eq_true rfl) rfl ?_; intro v_ n_ f_ h_; obtain ⟨rfl, hn_, hf_⟩ := h_; replace hn_ := hn_.symm; replace hf_ := hf_.symm; subst hn_; subst hf_
    refine mz_go [5] 12 ?_
    simp only [mz_r0, mk_lit, mk_fin, mk_cat, mk_fit, mk_nar, mk_cls, mk_ty, mk_isr, List.mem_cons, List.not_mem_nil, or_false, or_true, false_or, true_or, Nat.reduceEqDiff, Nat.reduceAdd, Nat.reduceSub, Nat.reduceLT, Nat.reduceLeDiff, ↓reduceIte, if_true, if_false, List.getElem?_cons_zero, List.getElem?_cons_succ, List.set_cons_zero, List.set_cons_succ, List.length_cons, List.length_nil, mz_s1, mz_s2, mz_cl, true_and, and_true, false_and, and_false, List.append_nil, mk_b0, mk_b1, mk_b2, mk_bn, Value.int.injEq, Option.toList_some, Option.toList_none, List.cons_append, List.nil_append, Classical.not_not, Option.some.injEq, reduceCtorEq, ne_eq, not_true_eq_false, not_false_eq_true, false_implies, true_implies, ev_56, ev_41, ev_79, ft_2_0, fn_2_0, ev_37, ev_67, mz_rl d_Multiplier_punchNumber_10, mz_rl d_Multiplier_punchNumber_13, mz_rl d_Multiplier_punchNumber_14, mz_rl d_Multiplier_punchNumber_17, mz_rl d_Multiplier_punchNumber_18, mz_rl d_Multiplier_punchNumber_19, mz_rl d_Multiplier_punchNumber_20, mz_rl d_Multiplier_punchNumber_21, mz_rl d_Multiplier_punchNumber_31, j_Multiplier_punchNumber_10, nF_12, nI_leI (show y % 16 + (y / 16 + 1) < 2 ^ 31 by omega) (show y % 16 + (y / 16 + 1) < 2 ^ 31 by omega), Nat.le_refl]
  | succ m ih =>
    intro k h0 hk
    refine mz_go [7] 12 ?_
    simp only [mz_r0, mk_lit, mk_fin, mk_cat, mk_fit, mk_nar, mk_cls, mk_ty, mk_isr, List.mem_cons, List.not_mem_nil, or_false, or_true, false_or, true_or, Nat.reduceEqDiff, Nat.reduceAdd, Nat.reduceSub, Nat.reduceLT, Nat.reduceLeDiff, ↓reduceIte, if_true, if_false, List.getElem?_cons_zero, List.getElem?_cons_succ, List.set_cons_zero, List.set_cons_succ, List.length_cons, List.length_nil, mz_s1, mz_s2, mz_cl, true_and, and_true, false_and, and_false, List.append_nil, mk_b0, mk_b1, mk_b2, mk_bn, Value.int.injEq, Option.toList_some, Option.toList_none, List.cons_append, List.nil_append, Classical.not_not, Option.some.injEq, reduceCtorEq, ne_eq, not_true_eq_false, not_false_eq_true, false_implies, true_implies, ev_37, mz_rl d_Multiplier_punchNumber_5, mz_rl d_Multiplier_punchNumber_6, nF_12]
    refine mz_callS (by simp only [d_Multiplier_punchNumber_7, Nat.reduceAdd]) g_12_63 rfl (fun _ _ h => h) (c_Office_endOf G mk_P n _ hy) (by decide) (Nat.le_of_ble_eq_true rfl) rfl ?_; intro v_ n_ f_ h_; obtain ⟨rfl, hn_, hf_⟩ := h_; replace hn_ := hn_.symm; replace hf_ := hf_.symm; subst hn_; subst hf_
    refine mz_go [21] 12 ?_
    simp only [mz_r0, mk_lit, mk_fin, mk_cat, mk_fit, mk_nar, mk_cls, mk_ty, mk_isr, List.mem_cons, List.not_mem_nil, or_false, or_true, false_or, true_or, Nat.reduceEqDiff, Nat.reduceAdd, Nat.reduceSub, Nat.reduceLT, Nat.reduceLeDiff, ↓reduceIte, if_true, if_false, List.getElem?_cons_zero, List.getElem?_cons_succ, List.set_cons_zero, List.set_cons_succ, List.length_cons, List.length_nil, mz_s1, mz_s2, mz_cl, true_and, and_true, false_and, and_false, List.append_nil, mk_b0, mk_b1, mk_b2, mk_bn, Value.int.injEq, Option.toList_some, Option.toList_none, List.cons_append, List.nil_append, Classical.not_not, Option.some.injEq, reduceCtorEq, ne_eq, not_true_eq_false, not_false_eq_true, false_implies, true_implies, ev_56, ev_41, ev_79, ft_2_0, fn_2_0, ev_37, ev_67, mz_rl d_Multiplier_punchNumber_10, mz_rl d_Multiplier_punchNumber_13, mz_rl d_Multiplier_punchNumber_14, mz_rl d_Multiplier_punchNumber_17, mz_rl d_Multiplier_punchNumber_18, mz_rl d_Multiplier_punchNumber_19, mz_rl d_Multiplier_punchNumber_20, mz_rl d_Multiplier_punchNumber_31, j_Multiplier_punchNumber_10, nF_12, nI_leI (show y % 16 + (y / 16 + 1) < 2 ^ 31 by omega) (show k < 2 ^ 31 by omega), show ¬ y % 16 + (y / 16 + 1) ≤ k by omega, h1, mz_u_n (show 172 + 2 * x ≠ 173 + 2 * x by omega)]
    refine mz_callS (by simp only [d_Multiplier_punchNumber_21, Nat.reduceAdd]) g_12_82 rfl (fun _ _ h => h) (c_Multiplier_signOfNumber G n _ (by rw [mz_u_n (by omega)]; exact hE) hr hy h0 (show k < y % 16 + (y / 16 + 1) by omega)) (by decide) (Nat.le_of_ble_eq_true rfl) rfl ?_; intro v_ n_ f_ h_; obtain ⟨rfl, hn_, hf_⟩ := h_; replace hn_ := hn_.symm; replace hf_ := hf_.symm; subst hn_; subst hf_
    refine mz_go [5] 12 ?_
    simp only [mz_r0, mk_lit, mk_fin, mk_cat, mk_fit, mk_nar, mk_cls, mk_ty, mk_isr, List.mem_cons, List.not_mem_nil, or_false, or_true, false_or, true_or, Nat.reduceEqDiff, Nat.reduceAdd, Nat.reduceSub, Nat.reduceLT, Nat.reduceLeDiff, ↓reduceIte, if_true, if_false, List.getElem?_cons_zero, List.getElem?_cons_succ, List.set_cons_zero, List.set_cons_succ, List.length_cons, List.length_nil, mz_s1, mz_s2, mz_cl, true_and, and_true, false_and, and_false, List.append_nil, mk_b0, mk_b1, mk_b2, mk_bn, Value.int.injEq, Option.toList_some, Option.toList_none, List.cons_append, List.nil_append, Classical.not_not, Option.some.injEq, reduceCtorEq, ne_eq, not_true_eq_false, not_false_eq_true, false_implies, true_implies, ev_72, ev_48, ev_61, mz_rl d_Multiplier_punchNumber_24, mz_rl d_Multiplier_punchNumber_25, mz_rl d_Multiplier_punchNumber_28, j_Multiplier_punchNumber_28, nF_12, vp_in_nI (show k < 16 by omega) (show 16 < 2 ^ 31 by decide), nI_clamp (show k < 2 ^ 31 by omega), mz_u_s, mz_uu, nI_add, upd_nI]
    have e : va_up (pnN s r y k) k (snN r y k) = pnN s r y (k + 1) := by
      funext j; unfold va_up pnN
      by_cases q : j = k
      · subst q; rw [if_pos rfl, if_pos ⟨h0, by omega⟩]
      · rw [if_neg q]
        by_cases q2 : y % 16 ≤ j ∧ j < k
        · rw [if_pos q2, if_pos (by omega)]
        · rw [if_neg q2, if_neg (by omega)]
    rw [e]
    exact ih (k + 1) (by omega) (by omega)
theorem c_Multiplier_punchNumber (G : mz_G) (n : Nat) (f : mz_H) {x y r K : Nat} {s : Nat → Nat → Nat} (hE : f 1000000000001 = mz_d) (hC : Cd f K s) (hx : x < K) (hK : K ≤ 200) (hr : r < 2 ^ 31) (hy : y < 96) (hy2 : y % 16 + (y / 16 + 1) ≤ 16) :
    mz_Ct G mk_P y_Multiplier_punchNumber b_Multiplier_punchNumber 4 none (r_Multiplier_punchNumber 0 0) [.ref (172 + 2 * x), .int (nI y), .int (nI r)] n f (fun v n' f' => v = none ∧ n' = n ∧ f' = mz_u f (173 + 2 * x) (aI 16 (fun j => nI (pnN (s x) r y (y % 16 + (y / 16 + 1)) j)))) := by
  refine mk_Ct 12 false [some (.ref (172 + 2 * x)), some (.int (nI y)), some (.int (nI r)), none] (by decide) rfl (by decide) (Nat.le_of_ble_eq_true rfl) rfl ?_
  refine mz_go [1] 12 ?_
  simp only [mz_r0, mk_lit, mk_fin, mk_cat, mk_fit, mk_nar, mk_cls, mk_ty, mk_isr, List.mem_cons, List.not_mem_nil, or_false, or_true, false_or, true_or, Nat.reduceEqDiff, Nat.reduceAdd, Nat.reduceSub, Nat.reduceLT, Nat.reduceLeDiff, ↓reduceIte, if_true, if_false, List.getElem?_cons_zero, List.getElem?_cons_succ, List.set_cons_zero, List.set_cons_succ, List.length_cons, List.length_nil, mz_s1, mz_s2, mz_cl, true_and, and_true, false_and, and_false, List.append_nil, mk_b0, mk_b1, mk_b2, mk_bn, Value.int.injEq, Option.toList_some, Option.toList_none, List.cons_append, List.nil_append, Classical.not_not, Option.some.injEq, reduceCtorEq, ne_eq, not_true_eq_false, not_false_eq_true, false_implies, true_implies, ev_37, mz_rl d_Multiplier_punchNumber_0, nF_12]
  refine mz_callS (by simp only [d_Multiplier_punchNumber_1, Nat.reduceAdd]) g_12_60 rfl (fun _ _ h => h) (c_Office_startOf G mk_P n f hy) (by decide) (Nat.le_of_ble_eq_true rfl) rfl ?_; intro v_ n_ f_ h_; obtain ⟨rfl, hn_, hf_⟩ := h_; replace hn_ := hn_.symm; replace hf_ := hf_.symm; subst hn_; subst hf_
  refine mz_go [5] 12 ?_
  simp only [mz_r0, mk_lit, mk_fin, mk_cat, mk_fit, mk_nar, mk_cls, mk_ty, mk_isr, List.mem_cons, List.not_mem_nil, or_false, or_true, false_or, true_or, Nat.reduceEqDiff, Nat.reduceAdd, Nat.reduceSub, Nat.reduceLT, Nat.reduceLeDiff, ↓reduceIte, if_true, if_false, List.getElem?_cons_zero, List.getElem?_cons_succ, List.set_cons_zero, List.set_cons_succ, List.length_cons, List.length_nil, mz_s1, mz_s2, mz_cl, true_and, and_true, false_and, and_false, List.append_nil, mk_b0, mk_b1, mk_b2, mk_bn, Value.int.injEq, Option.toList_some, Option.toList_none, List.cons_append, List.nil_append, Classical.not_not, Option.some.injEq, reduceCtorEq, ne_eq, not_true_eq_false, not_false_eq_true, false_implies, true_implies, ev_43, mz_rl d_Multiplier_punchNumber_4, nF_12]
  have e : pnN (s x) r y (y % 16) = s x := by funext j; unfold pnN; rw [if_neg (by omega)]
  have := l_Multiplier_punchNumber G n f (x := x) (s := s x) hE (hC x hx).1 (by omega) hr hy hy2 (y / 16 + 1) (y % 16) (by omega) rfl
  rw [e, mz_ui (hC x hx).2.1] at this
  exact this
end
section
theorem cmp0 (x y : Int64) : (lg_cmp x y = 0) = (x = y) := by
  unfold lg_cmp
  by_cases h1 : x > y
  · rw [if_pos h1]
    have : ¬ x = y := by rintro rfl; exact absurd h1 (by simp [Int64.lt_iff_toInt_lt])
    simp [this]
  · rw [if_neg h1]
    by_cases h2 : x = y
    · simp [h2]
    · simp [h2]
theorem cmpl (x y : Int64) : (lg_cmp x y < 0) = (x < y) := by
  unfold lg_cmp
  by_cases h1 : x > y
  · rw [if_pos h1]
    have h3 : y.toInt < x.toInt := Int64.lt_iff_toInt_lt.mp h1
    have : ¬ x < y := by rw [Int64.lt_iff_toInt_lt]; omega
    simp [this]
  · rw [if_neg h1]
    by_cases h2 : x = y
    · subst h2
      rw [if_pos rfl]
      have : ¬ x < x := by rw [Int64.lt_iff_toInt_lt]; omega
      simp [this]
    · rw [if_neg h2]
      have h3 : ¬ y.toInt < x.toInt := fun z => h1 (Int64.lt_iff_toInt_lt.mpr z)
      have h4 : x.toInt ≠ y.toInt := fun z => h2 (Int64.toInt_inj.mp z)
      have : x < y := by rw [Int64.lt_iff_toInt_lt]; omega
      simp [this]
theorem oL_none (o : Option Nat) (h : ∀ x, o = some x → x < 2 ^ 62) : (oL o = -1) = (o = none) := by
  cases o with
  | none => simp [oL]
  | some x =>
    have hx := h x rfl
    have : ¬ lN x = -1 := by
      rw [← Int64.toInt_inj, pk_lT (by omega)]
      have : (-1 : Int64).toInt = -1 := by decide
      omega
    simp [oL, this]
/-- the product of a card's two numbers -/
def mulR (s : Nat → Nat) (rt qy : Nat) : Option Nat := match numN s (rt % 16) (rt / 16 + 1) 0, numN s (qy % 16) (qy / 16 + 1) 0 with
  | some a, some b => some ((a * b + 5) / 10)
  | _, _ => none
/-- a card's fault in the multiplier -/
def mulF (s : Nat → Nat) (rt qy pr : Nat) : Nat := match mulR s rt qy with
  | some r => if 10 ^ (pr / 16 + 1) ≤ r then 3 else if ctB s r pr (pr % 16) (pr / 16 + 1) = true then 0 else 1
  | none => 1
/-- a card's signs behind the multiplier -/
def mulS (s : Nat → Nat) (rt qy pr : Nat) : Nat → Nat := match mulR s rt qy with
  | some r => pnN s r pr (pr % 16 + (pr / 16 + 1))
  | none => s
def facOk (y : Nat) : Prop := y < 96 ∧ y % 16 + (y / 16 + 1) ≤ 16
theorem numN_b {s : Nat → Nat} (hs : ∀ j, j < 16 → sg (s j)) {y : Nat} (hy : facOk y) : ∀ x, numN s (y % 16) (y / 16 + 1) 0 = some x → x < 1000000 := by
  intro x h
  have h1 := numN_lt hs _ _ _ _ hy.2 h
  have h2 : 10 ^ (y / 16 + 1) ≤ 10 ^ 6 := Nat.pow_le_pow_right (by decide) (by have := hy.1; omega)
  omega
theorem c_Multiplier_multiplyOn (G : mz_G) (n : Nat) (f : mz_H) {x rt qy pr K : Nat} {s : Nat → Nat → Nat} (hE : f 1000000000001 = mz_d) (hC : Cd f K s) (hx : x < K) (hK : K ≤ 200) (h1 : facOk rt) (h2 : facOk qy) (h3 : facOk pr) :
    mz_Ct G mk_P y_Multiplier_multiplyOn b_Multiplier_multiplyOn 10 (some .int) (r_Multiplier_multiplyOn 0 0) [.ref (172 + 2 * x), .int (nI rt), .int (nI qy), .int (nI pr)] n f (fun v n' f' => v = some (.int (nI (mulF (s x) rt qy pr))) ∧ n' = n ∧ f' = if mulF (s x) rt qy pr = 0 then mz_u f (173 + 2 * x) (aI 16 (fun j => nI (mulS (s x) rt qy pr j))) else f) := by
  have q := hC x hx
  obtain ⟨A, hA⟩ : ∃ A, A = numN (s x) (rt % 16) (rt / 16 + 1) 0 := ⟨_, rfl⟩
  obtain ⟨B, hB⟩ : ∃ B, B = numN (s x) (qy % 16) (qy / 16 + 1) 0 := ⟨_, rfl⟩
  have bA : ∀ z, A = some z → z < 1000000 := fun z hz => numN_b q.2.2 h1 z (by rw [← hA]; exact hz)
  have bB : ∀ z, B = some z → z < 1000000 := fun z hz => numN_b q.2.2 h2 z (by rw [← hB]; exact hz)
  refine mk_Ct 12 false [some (.ref (172 + 2 * x)), some (.int (nI rt)), some (.int (nI qy)), some (.int (nI pr)), none, none, none, none, none, none] (by decide) rfl (by decide) (Nat.le_of_ble_eq_true rfl) rfl ?_
  refine mz_go [2] 12 ?_
  simp only [mz_r0, mk_lit, mk_fin, mk_cat, mk_fit, mk_nar, mk_cls, mk_ty, mk_isr, List.mem_cons, List.not_mem_nil, or_false, or_true, false_or, true_or, Nat.reduceEqDiff, Nat.reduceAdd, Nat.reduceSub, Nat.reduceLT, Nat.reduceLeDiff, ↓reduceIte, if_true, if_false, List.getElem?_cons_zero, List.getElem?_cons_succ, List.set_cons_zero, List.set_cons_succ, List.length_cons, List.length_nil, mz_s1, mz_s2, mz_cl, true_and, and_true, false_and, and_false, List.append_nil, mk_b0, mk_b1, mk_b2, mk_bn, Value.int.injEq, Option.toList_some, Option.toList_none, List.cons_append, List.nil_append, Classical.not_not, Option.some.injEq, reduceCtorEq, ne_eq, not_true_eq_false, not_false_eq_true, false_implies, true_implies, ev_41, ev_37, mz_rl d_Multiplier_multiplyOn_0, mz_rl d_Multiplier_multiplyOn_1, nF_12]
  refine mz_callS (by simp only [d_Multiplier_multiplyOn_2, Nat.reduceAdd]) g_12_35 rfl (fun _ _ h => h) (c_Multiplier_numberIn G mk_P n f hC hx h1.1 h1.2) (by decide) (Nat.le_of_ble_eq_true rfl) rfl ?_; intro v_ n_ f_ h_; obtain ⟨rfl, hn_, hf_⟩ := h_; replace hn_ := hn_.symm; replace hf_ := hf_.symm; subst hn_; subst hf_
  rw [← hA]
  refine mz_go [9] 12 ?_
  simp only [mz_r0, mk_lit, mk_fin, mk_cat, mk_fit, mk_nar, mk_cls, mk_ty, mk_isr, List.mem_cons, List.not_mem_nil, or_false, or_true, false_or, true_or, Nat.reduceEqDiff, Nat.reduceAdd, Nat.reduceSub, Nat.reduceLT, Nat.reduceLeDiff, ↓reduceIte, if_true, if_false, List.getElem?_cons_zero, List.getElem?_cons_succ, List.set_cons_zero, List.set_cons_succ, List.length_cons, List.length_nil, mz_s1, mz_s2, mz_cl, true_and, and_true, false_and, and_false, List.append_nil, mk_b0, mk_b1, mk_b2, mk_bn, Value.int.injEq, Option.toList_some, Option.toList_none, List.cons_append, List.nil_append, Classical.not_not, Option.some.injEq, reduceCtorEq, ne_eq, not_true_eq_false, not_false_eq_true, false_implies, true_implies, ev_44, ev_41, ev_37, mz_rl d_Multiplier_multiplyOn_5, mz_rl d_Multiplier_multiplyOn_7, mz_rl d_Multiplier_multiplyOn_8, nF_12]
  refine mz_callS (by simp only [d_Multiplier_multiplyOn_9, Nat.reduceAdd]) g_12_35 rfl (fun _ _ h => h) (c_Multiplier_numberIn G mk_P n f hC hx h2.1 h2.2) (by decide) (Nat.le_of_ble_eq_true rfl) rfl ?_; intro v_ n_ f_ h_; obtain ⟨rfl, hn_, hf_⟩ := h_; replace hn_ := hn_.symm; replace hf_ := hf_.symm; subst hn_; subst hf_
  rw [← hB]
  have eA := oL_none A (fun z hz => by have := bA z hz; omega)
  have eB := oL_none B (fun z hz => by have := bB z hz; omega)
  refine mz_go [34] 30 ?_
  simp only [mz_r0, mk_lit, mk_fin, mk_cat, mk_fit, mk_nar, mk_cls, mk_ty, mk_isr, List.mem_cons, List.not_mem_nil, or_false, or_true, false_or, true_or, Nat.reduceEqDiff, Nat.reduceAdd, Nat.reduceSub, Nat.reduceLT, Nat.reduceLeDiff, ↓reduceIte, if_true, if_false, List.getElem?_cons_zero, List.getElem?_cons_succ, List.set_cons_zero, List.set_cons_succ, List.length_cons, List.length_nil, mz_s1, mz_s2, mz_cl, true_and, and_true, false_and, and_false, List.append_nil, mk_b0, mk_b1, mk_b2, mk_bn, Value.int.injEq, Option.toList_some, Option.toList_none, List.cons_append, List.nil_append, Classical.not_not, Option.some.injEq, reduceCtorEq, ne_eq, not_true_eq_false, not_false_eq_true, false_implies, true_implies, ev_44, ev_38, ev_83, ev_23, ev_49, ev_51, ev_0, ev_64, mz_rl d_Multiplier_multiplyOn_12, mz_rl d_Multiplier_multiplyOn_14, mz_rl d_Multiplier_multiplyOn_16, mz_rl d_Multiplier_multiplyOn_19, mz_rl d_Multiplier_multiplyOn_20, mz_rl d_Multiplier_multiplyOn_23, mz_rl d_Multiplier_multiplyOn_25, mz_rl d_Multiplier_multiplyOn_28, mz_rl d_Multiplier_multiplyOn_29, mz_rl d_Multiplier_multiplyOn_32, mz_rl d_Multiplier_multiplyOn_33, j_Multiplier_multiplyOn_20, j_Multiplier_multiplyOn_29, nF_12, mk_con, cmp0, eA, eB]
  have hno : (A = none ∨ B = none) → mulF (s x) rt qy pr = 1 := by
    intro h
    unfold mulF mulR
    rw [← hA, ← hB]
    rcases h with h | h
    · rw [h]
    · rw [h]; cases A <;> rfl
  refine ⟨fun h => ?_, fun h => ⟨fun h' => ?_, fun h' => ?_⟩⟩
  · rw [hno (Or.inl h)]; simp
  · cases A with
    | none => exact absurd rfl h
    | some a =>
      cases B with
      | none => exact absurd rfl h'
      | some b =>
        have ha := bA a rfl
        have hb := bB b rfl
        have hab : a * b ≤ 1000000 * 1000000 := Nat.mul_le_mul (by omega) (by omega)
        obtain ⟨r, hr⟩ : ∃ r, r = (a * b + 5) / 10 := ⟨_, rfl⟩
        have hr2 : r ≤ 100000000001 := by omega
        have hR : mulR (s x) rt qy = some r := by unfold mulR; rw [← hA, ← hB, hr]
        have n10 : ¬ (lN 10 : Int64) = 0 := by decide
        refine mz_go [55] 30 ?_
        simp only [mz_r0, mk_lit, mk_fin, mk_cat, mk_fit, mk_nar, mk_cls, mk_ty, mk_isr, List.mem_cons, List.not_mem_nil, or_false, or_true, false_or, true_or, Nat.reduceEqDiff, Nat.reduceAdd, Nat.reduceSub, Nat.reduceLT, Nat.reduceLeDiff, ↓reduceIte, if_true, if_false, List.getElem?_cons_zero, List.getElem?_cons_succ, List.set_cons_zero, List.set_cons_succ, List.length_cons, List.length_nil, mz_s1, mz_s2, mz_cl, true_and, and_true, false_and, and_false, List.append_nil, mk_b0, mk_b1, mk_b2, mk_bn, Value.int.injEq, Option.toList_some, Option.toList_none, List.cons_append, List.nil_append, Classical.not_not, Option.some.injEq, reduceCtorEq, ne_eq, not_true_eq_false, not_false_eq_true, false_implies, true_implies, ev_38, ev_17, ev_83, ev_15, ev_21, ev_44, ev_81, ev_37, mz_rl d_Multiplier_multiplyOn_34, mz_rl d_Multiplier_multiplyOn_36, mz_rl d_Multiplier_multiplyOn_38, mz_rl d_Multiplier_multiplyOn_39, mz_rl d_Multiplier_multiplyOn_42, mz_rl d_Multiplier_multiplyOn_43, mz_rl d_Multiplier_multiplyOn_46, mz_rl d_Multiplier_multiplyOn_47, mz_rl d_Multiplier_multiplyOn_49, mz_rl d_Multiplier_multiplyOn_51, mz_rl d_Multiplier_multiplyOn_54, nF_12, mk_con, oL, l10, l5, lN_mul, lN_add, n10, pk_lDiv (show a * b + 5 < 2 ^ 63 by omega) (show 0 < 10 by decide) (show 10 < 2 ^ 63 by decide), mk_sta, mk_P1]
        rw [← hr]
        refine mz_callS (by simp only [d_Multiplier_multiplyOn_55, Nat.reduceAdd]) g_12_49 rfl (fun _ _ h => h) (c_Office_widthOf G mk_P n f h3.1) (by decide) (Nat.le_of_ble_eq_true rfl) rfl ?_; intro v_ n_ f_ h_; obtain ⟨rfl, hn_, hf_⟩ := h_; replace hn_ := hn_.symm; replace hf_ := hf_.symm; subst hn_; subst hf_
        have h7 : pr / 16 + 1 < 7 := by have := h3.1; omega
        have hp := pw10 _ h7
        have eC : (lg_cmp (lN r) (nI (10 ^ (pr / 16 + 1))).toInt64 < 0) = (r < 10 ^ (pr / 16 + 1)) := by
          rw [cmpl, nI_l hp, pk_lLT (by omega) (by omega)]
        refine mz_go [71] 30 ?_
        simp only [mz_r0, mk_lit, mk_fin, mk_cat, mk_fit, mk_nar, mk_cls, mk_ty, mk_isr, List.mem_cons, List.not_mem_nil, or_false, or_true, false_or, true_or, Nat.reduceEqDiff, Nat.reduceAdd, Nat.reduceSub, Nat.reduceLT, Nat.reduceLeDiff, ↓reduceIte, if_true, if_false, List.getElem?_cons_zero, List.getElem?_cons_succ, List.set_cons_zero, List.set_cons_succ, List.length_cons, List.length_nil, mz_s1, mz_s2, mz_cl, true_and, and_true, false_and, and_false, List.append_nil, mk_b0, mk_b1, mk_b2, mk_bn, Value.int.injEq, Option.toList_some, Option.toList_none, List.cons_append, List.nil_append, Classical.not_not, Option.some.injEq, reduceCtorEq, ne_eq, not_true_eq_false, not_false_eq_true, false_implies, true_implies, ev_68, ev_28, ev_23, ev_53, ev_0, ev_64, ev_41, ev_37, ev_38, ev_29, mz_rl d_Multiplier_multiplyOn_58, mz_rl d_Multiplier_multiplyOn_59, mz_rl d_Multiplier_multiplyOn_60, mz_rl d_Multiplier_multiplyOn_61, mz_rl d_Multiplier_multiplyOn_64, mz_rl d_Multiplier_multiplyOn_65, mz_rl d_Multiplier_multiplyOn_66, mz_rl d_Multiplier_multiplyOn_67, mz_rl d_Multiplier_multiplyOn_68, mz_rl d_Multiplier_multiplyOn_70, j_Multiplier_multiplyOn_61, nF_12, hE, mz_d, mk_P1, vp_in_nI h7 (show 7 < 2 ^ 31 by decide), nI_clamp (show pr / 16 + 1 < 2 ^ 31 by omega), pwN _ h7, eC, lN_i]
        refine ⟨fun h5 => ?_, fun h5 => ?_⟩
        · have hr3 : r < 2 ^ 31 := by omega
          refine mz_callS (by simp only [d_Multiplier_multiplyOn_71, Nat.reduceAdd]) g_12_52 rfl (fun _ _ h => h) (c_Multiplier_canTakeNumber G n f hE hC hx hr3 h3.1 h3.2) (by decide) (Nat.le_of_ble_eq_true rfl) rfl ?_; intro v_ n_ f_ h_; obtain ⟨rfl, hn_, hf_⟩ := h_; replace hn_ := hn_.symm; replace hf_ := hf_.symm; subst hn_; subst hf_
          refine mz_go [84] 30 ?_
          simp only [mz_r0, mk_lit, mk_fin, mk_cat, mk_fit, mk_nar, mk_cls, mk_ty, mk_isr, List.mem_cons, List.not_mem_nil, or_false, or_true, false_or, true_or, Nat.reduceEqDiff, Nat.reduceAdd, Nat.reduceSub, Nat.reduceLT, Nat.reduceLeDiff, ↓reduceIte, if_true, if_false, List.getElem?_cons_zero, List.getElem?_cons_succ, List.set_cons_zero, List.set_cons_succ, List.length_cons, List.length_nil, mz_s1, mz_s2, mz_cl, true_and, and_true, false_and, and_false, List.append_nil, mk_b0, mk_b1, mk_b2, mk_bn, Value.int.injEq, Option.toList_some, Option.toList_none, List.cons_append, List.nil_append, Classical.not_not, Option.some.injEq, reduceCtorEq, ne_eq, not_true_eq_false, not_false_eq_true, false_implies, true_implies, ev_51, ev_0, ev_64, ev_41, ev_37, ev_38, ev_29, mz_rl d_Multiplier_multiplyOn_74, mz_rl d_Multiplier_multiplyOn_77, mz_rl d_Multiplier_multiplyOn_78, mz_rl d_Multiplier_multiplyOn_79, mz_rl d_Multiplier_multiplyOn_80, mz_rl d_Multiplier_multiplyOn_81, mz_rl d_Multiplier_multiplyOn_83, j_Multiplier_multiplyOn_74, nF_12, lN_i]
          refine ⟨fun h6 => ?_, fun h6 => ?_⟩
          · have hF : mulF (s x) rt qy pr = 0 := by unfold mulF; rw [hR]; simp only []; rw [if_neg (by omega), if_pos h6]
            refine mz_callS (by simp only [d_Multiplier_multiplyOn_84, Nat.reduceAdd]) g_12_56 rfl (fun _ _ h => h) (c_Multiplier_punchNumber G n f hE hC hx hK hr3 h3.1 h3.2) (by decide) (Nat.le_of_ble_eq_true rfl) rfl ?_; intro v_ n_ f_ h_; obtain ⟨rfl, hn_, hf_⟩ := h_; replace hn_ := hn_.symm; replace hf_ := hf_.symm; subst hn_; subst hf_
            refine mz_go [] 30 ?_
            simp only [mz_r0, mk_lit, mk_fin, mk_cat, mk_fit, mk_nar, mk_cls, mk_ty, mk_isr, List.mem_cons, List.not_mem_nil, or_false, or_true, false_or, true_or, Nat.reduceEqDiff, Nat.reduceAdd, Nat.reduceSub, Nat.reduceLT, Nat.reduceLeDiff, ↓reduceIte, if_true, if_false, List.getElem?_cons_zero, List.getElem?_cons_succ, List.set_cons_zero, List.set_cons_succ, List.length_cons, List.length_nil, mz_s1, mz_s2, mz_cl, true_and, and_true, false_and, and_false, List.append_nil, mk_b0, mk_b1, mk_b2, mk_bn, Value.int.injEq, Option.toList_some, Option.toList_none, List.cons_append, List.nil_append, Classical.not_not, Option.some.injEq, reduceCtorEq, ne_eq, not_true_eq_false, not_false_eq_true, false_implies, true_implies, ev_0, ev_64, mz_rl d_Multiplier_multiplyOn_87, mz_rl d_Multiplier_multiplyOn_88, nF_12, hF]
            unfold mulS; rw [hR]
          · have hF : mulF (s x) rt qy pr = 1 := by unfold mulF; rw [hR]; simp only []; rw [if_neg (by omega), if_neg h6]
            rw [hF]; simp
        · have hF : mulF (s x) rt qy pr = 3 := by unfold mulF; rw [hR]; simp only []; rw [if_pos (by omega)]
          rw [hF]; simp
  · rw [hno (Or.inr h')]; simp
theorem mulS_sg {s : Nat → Nat} (hs : ∀ j, j < 16 → sg (s j)) (rt qy pr : Nat) : ∀ j, j < 16 → sg (mulS s rt qy pr j) := by
  intro j hj
  unfold mulS
  cases mulR s rt qy with
  | none => exact hs j hj
  | some r =>
    show sg (pnN s r pr (pr % 16 + (pr / 16 + 1)) j)
    unfold pnN
    split
    · exact snN_sg _ _ _
    · exact hs j hj
/-- addresses below 172 outside of S hold what they held -/
def Fr (f F : mz_H) (S : List Nat) : Prop := ∀ a, (a < 172 ∨ a = 1000000000001) → a ∉ S → F a = f a
theorem Fr_rf {f : mz_H} {S : List Nat} : Fr f f S := fun _ _ _ => rfl
theorem Fr_u {f F : mz_H} {S : List Nat} (h : Fr f F S) {a : Nat} (ha : a ∈ S ∨ 172 ≤ a ∧ a ≠ 1000000000001) (x : mz_C) : Fr f (mz_u F a x) S := fun b hb hS => by
  rw [mz_u_n (by rintro rfl; rcases ha with ha | ha; exact hS ha; omega)]
  exact h b hb hS
/-- the light's cell behind a run: the fault's kind, and its card -/
def lightC (k i : Nat) : mz_C := .inr (5, [.int (nI k), .int (if k = 0 then -1 else nI i)])
/-- a deck's run through the multiplier, from card i on: fault, card, the cards' signs -/
def muF (rt qy pr : Nat) (c : Nat → Nat) : Nat → Nat → (Nat → Nat → Nat) → Nat × Nat × (Nat → Nat → Nat)
  | 0, i, s => (0, i, s)
  | m + 1, i, s => if mulF (s (c i)) rt qy pr = 0 then muF rt qy pr c m (i + 1) (va_up s (c i) (mulS (s (c i)) rt qy pr)) else (mulF (s (c i)) rt qy pr, i, s)
theorem l_Multiplier_goThrough (G : mz_G) (n : Nat) (f : mz_H) {d a sz rt qy pr K : Nat} {u w : Int32} {g : Nat → Option Nat} {c : Nat → Nat} (hE : f 1000000000001 = mz_d) (hd1 : f d = .inr (4, [.ref a, .int (nI sz)])) (hd2 : f a = aQ 6 200 g) (hd4 : f 4 = .inr (5, [.int u, .int w])) (hd : d < 172) (ha : a < 172) (h4d : d ≠ 4) (h4a : a ≠ 4) (hs : sz ≤ 200) (hP : Ps g sz c K) (hK : K ≤ 200) (h1 : facOk rt) (h2 : facOk qy) (h3 : facOk pr) (R : Nat × Nat × (Nat → Nat → Nat)) :
    ∀ m i w6 F s, i + m = sz → muF rt qy pr c m i s = R → Fr f F [4] → F 4 = f 4 → Cd F K s → mz_X G mk_P 12 false b_Multiplier_goThrough 7 (some .int) (r_Multiplier_goThrough 0 0) (fun v n' F' => v = some (.int (nI R.2.1)) ∧ n' = n ∧ Fr f F' [4] ∧ F' 4 = lightC R.1 R.2.1 ∧ Cd F' K R.2.2) (fun _ _ _ => False) 3 [some (.ref d), some (.int (nI rt)), some (.int (nI qy)), some (.int (nI pr)), some (.ref 4), some (.int (nI i)), w6] [] 0 0 n F := by
  intro m
  induction m with
  | zero =>
    intro i w6 F s hi hR hF h4 hC
    subst hR
    have k1 : F d = .inr (4, [.ref a, .int (nI sz)]) := by rw [hF d (Or.inl hd) (by simp [h4d])]; exact hd1
    have k4 : F 4 = .inr (5, [.int u, .int w]) := by rw [h4]; exact hd4
    refine mz_go [53] 12 ?_
    simp only [mz_r0, mk_lit, mk_fin, mk_cat, mk_fit, mk_nar, mk_cls, mk_ty, mk_isr, List.mem_cons, List.not_mem_nil, or_false, or_true, false_or, true_or, Nat.reduceEqDiff, Nat.reduceAdd, Nat.reduceSub, Nat.reduceLT, Nat.reduceLeDiff, ↓reduceIte, if_true, if_false, List.getElem?_cons_zero, List.getElem?_cons_succ, List.set_cons_zero, List.set_cons_succ, List.length_cons, List.length_nil, mz_s1, mz_s2, mz_cl, true_and, and_true, false_and, and_false, List.append_nil, mk_b0, mk_b1, mk_b2, mk_bn, Value.int.injEq, Option.toList_some, Option.toList_none, List.cons_append, List.nil_append, Classical.not_not, Option.some.injEq, reduceCtorEq, ne_eq, not_true_eq_false, not_false_eq_true, false_implies, true_implies, ev_36, ev_41, ev_79, ft_4_1, fn_4_1, ev_56, ev_40, mz_rl d_Multiplier_goThrough_3, mz_rl d_Multiplier_goThrough_5, mz_rl d_Multiplier_goThrough_6, mz_rl d_Multiplier_goThrough_9, mz_rl d_Multiplier_goThrough_12, mz_rl d_Multiplier_goThrough_13, mz_rl d_Multiplier_goThrough_15, mz_rl d_Multiplier_goThrough_47, mz_rl d_Multiplier_goThrough_49, mz_rl d_Multiplier_goThrough_50, j_Multiplier_goThrough_9, nF_12, k1, nI_leI (show sz < 2 ^ 31 by omega) (show i < 2 ^ 31 by omega), show sz ≤ i by omega]
    refine mz_callV (by simp only [d_Multiplier_goThrough_53, Nat.reduceAdd]) g_12_31 rfl (fun _ _ h => h) (c_FaultLight_allDone G mk_P n F (x := nI sz) k4) k4 rfl rfl (by decide) (Nat.le_of_ble_eq_true rfl) rfl ?_; intro v_ n_ f_ h_; obtain ⟨rfl, hn_, hf_⟩ := h_; replace hn_ := hn_.symm; replace hf_ := hf_.symm; subst hn_; subst hf_
    refine mz_go [] 12 ?_
    simp only [mz_r0, mk_lit, mk_fin, mk_cat, mk_fit, mk_nar, mk_cls, mk_ty, mk_isr, List.mem_cons, List.not_mem_nil, or_false, or_true, false_or, true_or, Nat.reduceEqDiff, Nat.reduceAdd, Nat.reduceSub, Nat.reduceLT, Nat.reduceLeDiff, ↓reduceIte, if_true, if_false, List.getElem?_cons_zero, List.getElem?_cons_succ, List.set_cons_zero, List.set_cons_succ, List.length_cons, List.length_nil, mz_s1, mz_s2, mz_cl, true_and, and_true, false_and, and_false, List.append_nil, mk_b0, mk_b1, mk_b2, mk_bn, Value.int.injEq, Option.toList_some, Option.toList_none, List.cons_append, List.nil_append, Classical.not_not, Option.some.injEq, reduceCtorEq, ne_eq, not_true_eq_false, not_false_eq_true, false_implies, true_implies, ev_64, mz_rl d_Multiplier_goThrough_56, nF_12]
    exact ⟨by show nI sz = nI i; congr 1; omega, Fr_u hF (Or.inl (by simp)) _, mz_u_s _ _ _, Cd_u hC (by decide) _⟩
  | succ m ih =>
    intro i w6 F s hi hR hF h4 hC
    unfold muF at hR
    have k1 : F d = .inr (4, [.ref a, .int (nI sz)]) := by rw [hF d (Or.inl hd) (by simp [h4d])]; exact hd1
    have k2 : F a = aQ 6 200 g := by rw [hF a (Or.inl ha) (by simp [h4a])]; exact hd2
    have k4 : F 4 = .inr (5, [.int u, .int w]) := by rw [h4]; exact hd4
    have kE : F 1000000000001 = mz_d := by rw [hF _ (Or.inr rfl) (by simp)]; exact hE
    have e1 := hP i (by omega)
    refine mz_go [15] 12 ?_
    simp only [mz_r0, mk_lit, mk_fin, mk_cat, mk_fit, mk_nar, mk_cls, mk_ty, mk_isr, List.mem_cons, List.not_mem_nil, or_false, or_true, false_or, true_or, Nat.reduceEqDiff, Nat.reduceAdd, Nat.reduceSub, Nat.reduceLT, Nat.reduceLeDiff, ↓reduceIte, if_true, if_false, List.getElem?_cons_zero, List.getElem?_cons_succ, List.set_cons_zero, List.set_cons_succ, List.length_cons, List.length_nil, mz_s1, mz_s2, mz_cl, true_and, and_true, false_and, and_false, List.append_nil, mk_b0, mk_b1, mk_b2, mk_bn, Value.int.injEq, Option.toList_some, Option.toList_none, List.cons_append, List.nil_append, Classical.not_not, Option.some.injEq, reduceCtorEq, ne_eq, not_true_eq_false, not_false_eq_true, false_implies, true_implies, ev_36, ev_41, ev_79, ft_4_1, fn_4_1, ev_56, ev_40, mz_rl d_Multiplier_goThrough_3, mz_rl d_Multiplier_goThrough_5, mz_rl d_Multiplier_goThrough_6, mz_rl d_Multiplier_goThrough_9, mz_rl d_Multiplier_goThrough_12, mz_rl d_Multiplier_goThrough_13, mz_rl d_Multiplier_goThrough_47, mz_rl d_Multiplier_goThrough_49, mz_rl d_Multiplier_goThrough_50, mz_rl d_Multiplier_goThrough_53, j_Multiplier_goThrough_9, nF_12, k1, nI_leI (show sz < 2 ^ 31 by omega) (show i < 2 ^ 31 by omega), show ¬ sz ≤ i by omega]
    refine mz_callV (by simp only [d_Multiplier_goThrough_15, Nat.reduceAdd]) g_12_15 rfl (fun _ _ h => h) (c_Deck_at G mk_P n F k1 k2 (show i < 200 by omega) e1.1) k1 rfl rfl (by decide) (Nat.le_of_ble_eq_true rfl) rfl ?_; intro v_ n_ f_ h_; obtain ⟨rfl, hn_, hf_⟩ := h_; replace hn_ := hn_.symm; replace hf_ := hf_.symm; subst hn_; subst hf_
    refine mz_go [21] 12 ?_
    simp only [mz_r0, mk_lit, mk_fin, mk_cat, mk_fit, mk_nar, mk_cls, mk_ty, mk_isr, List.mem_cons, List.not_mem_nil, or_false, or_true, false_or, true_or, Nat.reduceEqDiff, Nat.reduceAdd, Nat.reduceSub, Nat.reduceLT, Nat.reduceLeDiff, ↓reduceIte, if_true, if_false, List.getElem?_cons_zero, List.getElem?_cons_succ, List.set_cons_zero, List.set_cons_succ, List.length_cons, List.length_nil, mz_s1, mz_s2, mz_cl, true_and, and_true, false_and, and_false, List.append_nil, mk_b0, mk_b1, mk_b2, mk_bn, Value.int.injEq, Option.toList_some, Option.toList_none, List.cons_append, List.nil_append, Classical.not_not, Option.some.injEq, reduceCtorEq, ne_eq, not_true_eq_false, not_false_eq_true, false_implies, true_implies, ev_37, mz_rl d_Multiplier_goThrough_18, mz_rl d_Multiplier_goThrough_19, mz_rl d_Multiplier_goThrough_20, nF_12]
    refine mz_callS (by simp only [d_Multiplier_goThrough_21, Nat.reduceAdd]) g_12_19 rfl (fun _ _ h => h) (c_Multiplier_multiplyOn G n F kE hC e1.2 hK h1 h2 h3) (by decide) (Nat.le_of_ble_eq_true rfl) rfl ?_; intro v_ n_ f_ h_; obtain ⟨rfl, hn_, hf_⟩ := h_; replace hn_ := hn_.symm; replace hf_ := hf_.symm; subst hn_; subst hf_
    have hm3 : mulF (s (c i)) rt qy pr < 2 ^ 31 := by
      unfold mulF; split
      · split; decide; split <;> decide
      · decide
    have z0 : (nI (mulF (s (c i)) rt qy pr) = 0) = (mulF (s (c i)) rt qy pr = 0) := by
      rw [mk_eq, mk_nti hm3]; simp
    by_cases h0 : mulF (s (c i)) rt qy pr = 0
    · rw [if_pos h0] at hR ⊢
      refine mz_go [3] 12 ?_
      have z1 : (nI (mulF (s (c i)) rt qy pr) = 0) = True := by rw [z0]; exact eq_true h0
      simp only [mz_r0, mk_lit, mk_fin, mk_cat, mk_fit, mk_nar, mk_cls, mk_ty, mk_isr, List.mem_cons, List.not_mem_nil, or_false, or_true, false_or, true_or, Nat.reduceEqDiff, Nat.reduceAdd, Nat.reduceSub, Nat.reduceLT, Nat.reduceLeDiff, ↓reduceIte, if_true, if_false, List.getElem?_cons_zero, List.getElem?_cons_succ, List.set_cons_zero, List.set_cons_succ, List.length_cons, List.length_nil, mz_s1, mz_s2, mz_cl, true_and, and_true, false_and, and_false, List.append_nil, mk_b0, mk_b1, mk_b2, mk_bn, Value.int.injEq, Option.toList_some, Option.toList_none, List.cons_append, List.nil_append, Classical.not_not, Option.some.injEq, reduceCtorEq, ne_eq, not_true_eq_false, not_false_eq_true, false_implies, true_implies, ev_42, ev_36, ev_49, ev_40, ev_48, ev_61, mz_rl d_Multiplier_goThrough_24, mz_rl d_Multiplier_goThrough_26, mz_rl d_Multiplier_goThrough_28, mz_rl d_Multiplier_goThrough_31, mz_rl d_Multiplier_goThrough_33, mz_rl d_Multiplier_goThrough_35, mz_rl d_Multiplier_goThrough_37, mz_rl d_Multiplier_goThrough_41, mz_rl d_Multiplier_goThrough_44, j_Multiplier_goThrough_28, j_Multiplier_goThrough_44, nF_12, z1, nI_add]
      refine ih (i + 1) _ _ _ (by omega) hR (Fr_u hF (Or.inr (by omega)) _) (by rw [mz_u_n (by omega)]; exact h4) (Cd_set hC e1.2 (mulS_sg (hC _ e1.2).2.2 rt qy pr))
    · rw [if_neg h0] at hR ⊢
      subst hR
      refine mz_go [37] 12 ?_
      simp only [mz_r0, mk_lit, mk_fin, mk_cat, mk_fit, mk_nar, mk_cls, mk_ty, mk_isr, List.mem_cons, List.not_mem_nil, or_false, or_true, false_or, true_or, Nat.reduceEqDiff, Nat.reduceAdd, Nat.reduceSub, Nat.reduceLT, Nat.reduceLeDiff, ↓reduceIte, if_true, if_false, List.getElem?_cons_zero, List.getElem?_cons_succ, List.set_cons_zero, List.set_cons_succ, List.length_cons, List.length_nil, mz_s1, mz_s2, mz_cl, true_and, and_true, false_and, and_false, List.append_nil, mk_b0, mk_b1, mk_b2, mk_bn, Value.int.injEq, Option.toList_some, Option.toList_none, List.cons_append, List.nil_append, Classical.not_not, Option.some.injEq, reduceCtorEq, ne_eq, not_true_eq_false, not_false_eq_true, false_implies, true_implies, ev_36, ev_41, ev_79, ft_4_1, fn_4_1, ev_56, ev_42, ev_49, ev_40, ev_48, ev_61, mz_rl d_Multiplier_goThrough_3, mz_rl d_Multiplier_goThrough_5, mz_rl d_Multiplier_goThrough_6, mz_rl d_Multiplier_goThrough_9, mz_rl d_Multiplier_goThrough_12, mz_rl d_Multiplier_goThrough_13, mz_rl d_Multiplier_goThrough_15, mz_rl d_Multiplier_goThrough_24, mz_rl d_Multiplier_goThrough_26, mz_rl d_Multiplier_goThrough_28, mz_rl d_Multiplier_goThrough_31, mz_rl d_Multiplier_goThrough_33, mz_rl d_Multiplier_goThrough_35, mz_rl d_Multiplier_goThrough_41, mz_rl d_Multiplier_goThrough_44, mz_rl d_Multiplier_goThrough_47, mz_rl d_Multiplier_goThrough_49, mz_rl d_Multiplier_goThrough_50, mz_rl d_Multiplier_goThrough_53, j_Multiplier_goThrough_9, j_Multiplier_goThrough_28, j_Multiplier_goThrough_44, nF_12, z0, h0]
      refine mz_callV (by simp only [d_Multiplier_goThrough_37, Nat.reduceAdd]) g_12_25 rfl (fun _ _ h => h) (c_FaultLight_stopAt G mk_P n F (x := nI (mulF (s (c i)) rt qy pr)) (y := nI i) k4) k4 rfl rfl (by decide) (Nat.le_of_ble_eq_true rfl) rfl ?_; intro v_ n_ f_ h_; obtain ⟨rfl, hn_, hf_⟩ := h_; replace hn_ := hn_.symm; replace hf_ := hf_.symm; subst hn_; subst hf_
      refine mz_go [] 12 ?_
      simp only [mz_r0, mk_lit, mk_fin, mk_cat, mk_fit, mk_nar, mk_cls, mk_ty, mk_isr, List.mem_cons, List.not_mem_nil, or_false, or_true, false_or, true_or, Nat.reduceEqDiff, Nat.reduceAdd, Nat.reduceSub, Nat.reduceLT, Nat.reduceLeDiff, ↓reduceIte, if_true, if_false, List.getElem?_cons_zero, List.getElem?_cons_succ, List.set_cons_zero, List.set_cons_succ, List.length_cons, List.length_nil, mz_s1, mz_s2, mz_cl, true_and, and_true, false_and, and_false, List.append_nil, mk_b0, mk_b1, mk_b2, mk_bn, Value.int.injEq, Option.toList_some, Option.toList_none, List.cons_append, List.nil_append, Classical.not_not, Option.some.injEq, reduceCtorEq, ne_eq, not_true_eq_false, not_false_eq_true, false_implies, true_implies, ev_64, mz_rl d_Multiplier_goThrough_40, nF_12]
      exact ⟨Fr_u hF (Or.inl (by simp)) _, by unfold lightC; rw [if_neg h0]; exact mz_u_s _ _ _, Cd_u hC (by decide) _⟩
theorem c_Multiplier_goThrough (G : mz_G) (n : Nat) (f : mz_H) {d a sz rt qy pr K : Nat} {u w : Int32} {g : Nat → Option Nat} {c : Nat → Nat} {s : Nat → Nat → Nat} (hE : f 1000000000001 = mz_d) (hd1 : f d = .inr (4, [.ref a, .int (nI sz)])) (hd2 : f a = aQ 6 200 g) (hd4 : f 4 = .inr (5, [.int u, .int w])) (hd : d < 172) (ha : a < 172) (hs : sz ≤ 200) (hC : Cd f K s) (hP : Ps g sz c K) (hK : K ≤ 200) (h1 : facOk rt) (h2 : facOk qy) (h3 : facOk pr) :
    mz_Ct G mk_P y_Multiplier_goThrough b_Multiplier_goThrough 7 (some .int) (r_Multiplier_goThrough 0 0) [.ref d, .int (nI rt), .int (nI qy), .int (nI pr), .ref 4] n f (fun v n' F' => v = some (.int (nI (muF rt qy pr c sz 0 s).2.1)) ∧ n' = n ∧ Fr f F' [4] ∧ F' 4 = lightC (muF rt qy pr c sz 0 s).1 (muF rt qy pr c sz 0 s).2.1 ∧ Cd F' K (muF rt qy pr c sz 0 s).2.2) := by
  have h4d : d ≠ 4 := by rintro rfl; rw [hd1] at hd4; cases hd4
  have h4a : a ≠ 4 := by rintro rfl; rw [hd2] at hd4; cases hd4
  refine mk_Ct 12 false [some (.ref d), some (.int (nI rt)), some (.int (nI qy)), some (.int (nI pr)), some (.ref 4), none, none] (by decide) rfl (by decide) (Nat.le_of_ble_eq_true rfl) rfl ?_
  refine mz_go [3] 12 ?_
  simp only [mz_r0, mk_lit, mk_fin, mk_cat, mk_fit, mk_nar, mk_cls, mk_ty, mk_isr, List.mem_cons, List.not_mem_nil, or_false, or_true, false_or, true_or, Nat.reduceEqDiff, Nat.reduceAdd, Nat.reduceSub, Nat.reduceLT, Nat.reduceLeDiff, ↓reduceIte, if_true, if_false, List.getElem?_cons_zero, List.getElem?_cons_succ, List.set_cons_zero, List.set_cons_succ, List.length_cons, List.length_nil, mz_s1, mz_s2, mz_cl, true_and, and_true, false_and, and_false, List.append_nil, mk_b0, mk_b1, mk_b2, mk_bn, Value.int.injEq, Option.toList_some, Option.toList_none, List.cons_append, List.nil_append, Classical.not_not, Option.some.injEq, reduceCtorEq, ne_eq, not_true_eq_false, not_false_eq_true, false_implies, true_implies, ev_0, ev_42, mz_rl d_Multiplier_goThrough_0, mz_rl d_Multiplier_goThrough_1, nF_12]
  exact l_Multiplier_goThrough G n f hE hd1 hd2 hd4 hd ha h4d h4a hs hP hK h1 h2 h3 _ sz 0 none f s (by omega) rfl Fr_rf rfl hC
end
section
/-- do two signs that differ come to one of the jacks q .. -/
def clB (F T t : Nat → Nat) (q w : Nat) : Nat → Bool
  | 0 => false
  | p + 1 => clB F T t q w p || decide (arN F T t (q + p) w = -2)
theorem clB_iff {F T t : Nat → Nat} {q w : Nat} : ∀ N, clB F T t q w N = true ↔ ∃ p, p < N ∧ arN F T t (q + p) w = -2 := by
  intro N
  induction N with
  | zero => exact ⟨fun z => (by cases z), fun ⟨p, hp, _⟩ => absurd hp (Nat.not_lt_zero _)⟩
  | succ N ih =>
    unfold clB
    rw [Bool.or_eq_true, ih, decide_eq_true_eq]
    constructor
    · rintro (⟨p, hp, e⟩ | e)
      · exact ⟨p, by omega, e⟩
      · exact ⟨N, by omega, e⟩
    · rintro ⟨p, hp, e⟩
      by_cases h : p = N
      · subst h; exact Or.inr e
      · exact Or.inl ⟨p, by omega, e⟩
/-- the sign that a new card gets in column p -/
def nsN (F T t : Nat → Nat) (w p : Nat) : Nat := if arN F T t p w = -1 then 32 else (arN F T t p w).toNatClampNeg
/-- a deck's run through the reproducer, from card i on: fault, card, the cards' signs, the other deck's cards -/
def cdF (F T : Nat → Nat) (w r K si : Nat) (c : Nat → Nat) : Nat → Nat → (Nat → Nat → Nat) → (Nat → Nat) → Nat × Nat × (Nat → Nat → Nat) × (Nat → Nat)
  | 0, i, s, ci => (0, i, s, ci)
  | m + 1, i, s, ci => if clB F T (s (c i)) 0 w 16 = true then (2, i, s, ci) else if i < r then cdF F T w r K si c m (i + 1) (va_up s (K + i) (cpy (nsN F T (s (c i)) w) (fun _ => 0) 16)) (va_up ci (si + i) (K + i)) else (4, i, s, ci)
/-- what copyDeck leaves behind -/
def cdPost (f : mz_H) (e ea si K : Nat) (R : Nat × Nat × (Nat → Nat → Nat) × (Nat → Nat)) (v : Option Value) (n' : Nat) (F' : mz_H) : Prop := ∃ g' gc cl, v = some (.int (nI R.2.1)) ∧ n' = 172 + 2 * (K + R.2.1) ∧ K + R.2.1 ≤ 200 ∧ si + R.2.1 ≤ 200 ∧ Fr f F' [4, 14, 15, e, ea] ∧ F' 4 = lightC R.1 R.2.1 ∧ F' 14 = .inr (6, [.int (nI 0), .ref 15, .int cl]) ∧ F' 15 = aI 16 gc ∧ F' e = .inr (4, [.ref ea, .int (nI (si + R.2.1))]) ∧ F' ea = aQ 6 200 g' ∧ Ps g' (si + R.2.1) R.2.2.2 (K + R.2.1) ∧ Cd F' (K + R.2.1) R.2.2.1
/-- the jacks of the columns, by what comes there -/
theorem brC_col {F T L t : Nat → Nat} {w : Nat} {gc : Nat → Int32} (hok : BdOk w F T L) (ht : ∀ j, j < 16 → sg (t j)) : ((brC F T t 0 16 w (cpy (fun _ => -1) gc 16, nI 0)).2 = nI 0 ↔ clB F T t 0 w 16 = false) ∧ (clB F T t 0 w 16 = false → ∀ p, p < 16 → (brC F T t 0 16 w (cpy (fun _ => -1) gc 16, nI 0)).1 p = arN F T t p w) := by
  have h := brC_ar (q := 0) (N := 16) (z := (cpy (fun _ => -1) gc 16, nI 0)) (w := w) (fun k hk h32 => sgF_ok (hok.2.1 k hk).1 h32 ht) (fun p hp => by show cpy (fun _ => (-1 : Int32)) gc 16 p = -1; rw [cpy_lt hp]) rfl w (Nat.le_refl _) (T := T)
  obtain ⟨h1, h2⟩ := h
  have hc : clB F T t 0 w 16 = false ↔ ∀ p, p < 16 → arN F T t (0 + p) w ≠ -2 := by
    constructor
    · intro z p hp e
      have := (clB_iff (F := F) (T := T) (t := t) (q := 0) (w := w) 16).mpr ⟨p, hp, e⟩
      rw [z] at this; cases this
    · intro z
      cases e : clB F T t 0 w 16 with
      | false => rfl
      | true =>
        obtain ⟨p, hp, e2⟩ := (clB_iff 16).mp e
        exact absurd e2 (z p hp)
  refine ⟨?_, fun z p hp => ?_⟩
  · rcases h2 with ⟨a1, a2⟩ | ⟨a1, p, hp, a2⟩
    · exact ⟨fun _ => hc.mpr a2, fun _ => a1⟩
    · exact ⟨fun z => absurd (a1.symm.trans z) (by decide), fun z => absurd a2 (hc.mp z p hp)⟩
  · rcases h1 p hp with ⟨b1, _⟩ | ⟨_, b2⟩
    · exact absurd b1 (hc.mp z p hp)
    · rw [Nat.zero_add] at b2; exact b2
theorem fill_ok {g : Nat → Int32} {N : Nat} : ∀ k, k < N → cpy (fun _ => (-1 : Int32)) g N k = -1 ∨ ∃ c, sg c ∧ cpy (fun _ => (-1 : Int32)) g N k = nI c := fun k hk => Or.inl (cpy_lt hk)
theorem Ps_mono {g : Nat → Option Nat} {sz K K' : Nat} {c : Nat → Nat} (h : Ps g sz c K) (hK : K ≤ K') : Ps g sz c K' := fun j hj => ⟨(h j hj).1, by have := (h j hj).2; omega⟩
theorem Ps_add {g : Nat → Option Nat} {sz K : Nat} {c : Nat → Nat} (h : Ps g sz c K) {x : Nat} (hx : x < K) : Ps (va_up g sz (some (172 + 2 * x))) (sz + 1) (va_up c sz x) K := by
  intro j hj
  unfold va_up
  by_cases e : j = sz
  · simp [e, hx]
  · simp only [e, if_false]
    exact h j (by omega)
theorem l_Reproducer_copyDeck (G : mz_G) (f : mz_H) {b w d a e ea sz si r K : Nat} {F T L : Nat → Nat} {u0 w0 : Int32} {g : Nat → Option Nat} {c : Nat → Nat} (h13 : f 13 = .inr (8, [.ref 14])) (hB : Bd f b w F T L) (hok : BdOk w F T L) (hb : 126 < b ∧ b + 3 < 172) (hd1 : f d = .inr (4, [.ref a, .int (nI sz)])) (hd2 : f a = aQ 6 200 g) (hd4 : f 4 = .inr (5, [.int u0, .int w0])) (hd : 15 < d ∧ d < 172) (ha : 15 < a ∧ a < 172) (he : 15 < e ∧ e < 172) (hea : 15 < ea ∧ ea < 172) (hde : d ≠ e) (hdea : d ≠ ea) (hae : a ≠ e) (haea : a ≠ ea) (heea : e ≠ ea) (heb : e < b ∨ b + 3 < e) (heab : ea < b ∨ b + 3 < ea) (hs : sz ≤ 200) (hP : Ps g sz c K) (hr : si + r ≤ 200) (hKr : K + r ≤ 200) (R : Nat × Nat × (Nat → Nat → Nat) × (Nat → Nat)) :
    ∀ m i H s gi ci gc cl, i + m = sz → i ≤ r → cdF F T w r K si c m i s ci = R → Fr f H [4, 14, 15, e, ea] → H 4 = f 4 → H 14 = .inr (6, [.int (nI 0), .ref 15, .int cl]) → H 15 = aI 16 gc → H e = .inr (4, [.ref ea, .int (nI (si + i))]) → H ea = aQ 6 200 gi → Ps gi (si + i) ci (K + i) → Cd H (K + i) s →
      mz_X G mk_P 8 false b_Reproducer_copyDeck 7 (some .int) (r_Reproducer_copyDeck 400 3400) (cdPost f e ea si K R) (fun _ _ _ => False) 3 [some (.ref 13), some (.ref b), some (.ref d), some (.ref e), some (.int (nI r)), some (.ref 4), some (.int (nI i))] [] (2 * i) (17 * i) (172 + 2 * (K + i)) H := by
  intro m
  induction m with
  | zero =>
    intro i H s gi ci gc cl hi hir hR hF h4 h14 h15 hHe hHea hPi hC
    subst hR
    have k1 : H d = .inr (4, [.ref a, .int (nI sz)]) := by rw [hF d (Or.inl (by omega)) (by simp; omega)]; exact hd1
    have k4 : H 4 = .inr (5, [.int u0, .int w0]) := by rw [h4]; exact hd4
    refine mz_go [81] 12 ?_
    simp only [mz_r0, mk_lit, mk_fin, mk_cat, mk_fit, mk_nar, mk_cls, mk_ty, mk_isr, List.mem_cons, List.not_mem_nil, or_false, or_true, false_or, true_or, Nat.reduceEqDiff, Nat.reduceAdd, Nat.reduceSub, Nat.reduceLT, Nat.reduceLeDiff, ↓reduceIte, if_true, if_false, List.getElem?_cons_zero, List.getElem?_cons_succ, List.set_cons_zero, List.set_cons_succ, List.length_cons, List.length_nil, mz_s1, mz_s2, mz_cl, true_and, and_true, false_and, and_false, List.append_nil, mk_b0, mk_b1, mk_b2, mk_bn, Value.int.injEq, Option.toList_some, Option.toList_none, List.cons_append, List.nil_append, Classical.not_not, Option.some.injEq, reduceCtorEq, ne_eq, not_true_eq_false, not_false_eq_true, false_implies, true_implies, ev_36, ev_41, ev_79, ft_4_1, fn_4_1, ev_56, ev_40, mz_rl d_Reproducer_copyDeck_3, mz_rl d_Reproducer_copyDeck_5, mz_rl d_Reproducer_copyDeck_6, mz_rl d_Reproducer_copyDeck_9, mz_rl d_Reproducer_copyDeck_12, mz_rl d_Reproducer_copyDeck_13, mz_rl d_Reproducer_copyDeck_14, mz_rl d_Reproducer_copyDeck_16, mz_rl d_Reproducer_copyDeck_75, mz_rl d_Reproducer_copyDeck_77, mz_rl d_Reproducer_copyDeck_78, j_Reproducer_copyDeck_9, nF_8, k1, nI_leI (show sz < 2 ^ 31 by omega) (show i < 2 ^ 31 by omega), show sz ≤ i by omega]
    refine mz_callV (by simp only [d_Reproducer_copyDeck_81, Nat.reduceAdd]) g_8_54 rfl (fun _ _ h => h) (c_FaultLight_allDone G mk_P _ H (x := nI sz) k4) k4 rfl rfl ⟨by decide, by show 2 * i + 0 ≤ 400; omega, by show 17 * i + 0 ≤ 3400; omega⟩ (Nat.le_of_ble_eq_true rfl) rfl ?_; intro v_ n_ f_ h_; obtain ⟨rfl, hn_, hf_⟩ := h_; replace hn_ := hn_.symm; replace hf_ := hf_.symm; subst hn_; subst hf_
    refine mz_go [] 12 ?_
    simp only [mz_r0, mk_lit, mk_fin, mk_cat, mk_fit, mk_nar, mk_cls, mk_ty, mk_isr, List.mem_cons, List.not_mem_nil, or_false, or_true, false_or, true_or, Nat.reduceEqDiff, Nat.reduceAdd, Nat.reduceSub, Nat.reduceLT, Nat.reduceLeDiff, ↓reduceIte, if_true, if_false, List.getElem?_cons_zero, List.getElem?_cons_succ, List.set_cons_zero, List.set_cons_succ, List.length_cons, List.length_nil, mz_s1, mz_s2, mz_cl, true_and, and_true, false_and, and_false, List.append_nil, mk_b0, mk_b1, mk_b2, mk_bn, Value.int.injEq, Option.toList_some, Option.toList_none, List.cons_append, List.nil_append, Classical.not_not, Option.some.injEq, reduceCtorEq, ne_eq, not_true_eq_false, not_false_eq_true, false_implies, true_implies, ev_64, mz_rl d_Reproducer_copyDeck_84, nF_8]
    exact ⟨gi, gc, cl, by show some (Value.int (nI sz)) = some (Value.int (nI i)); congr 3; omega, rfl, by show K + i ≤ 200; omega, by show si + i ≤ 200; omega, Fr_u hF (Or.inl (by simp)) _, mz_u_s _ _ _, by rw [mz_u_n (by decide)]; exact h14, by rw [mz_u_n (by decide)]; exact h15, by rw [mz_u_n (by omega)]; exact hHe, by rw [mz_u_n (by omega)]; exact hHea, hPi, Cd_u hC (by decide) _⟩
  | succ m ih =>
    intro i H s gi ci gc cl hi hir hR hF h4 h14 h15 hHe hHea hPi hC
    unfold cdF at hR
    have k1 : H d = .inr (4, [.ref a, .int (nI sz)]) := by rw [hF d (Or.inl (by omega)) (by simp; omega)]; exact hd1
    have k2 : H a = aQ 6 200 g := by rw [hF a (Or.inl (by omega)) (by simp; omega)]; exact hd2
    have k4 : H 4 = .inr (5, [.int u0, .int w0]) := by rw [h4]; exact hd4
    have k13 : H 13 = .inr (8, [.ref 14]) := by rw [hF 13 (Or.inl (by decide)) (by simp; omega)]; exact h13
    have kB : Bd H b w F T L := by
      unfold Bd
      rw [hF b (Or.inl (by omega)) (by simp; omega), hF (b + 1) (Or.inl (by omega)) (by simp; omega), hF (b + 2) (Or.inl (by omega)) (by simp; omega), hF (b + 3) (Or.inl (by omega)) (by simp; omega)]
      exact hB
    have e1 := hP i (by omega)
    have hx : c i < K + i := by omega
    refine mz_go [16] 12 ?_
    simp only [mz_r0, mk_lit, mk_fin, mk_cat, mk_fit, mk_nar, mk_cls, mk_ty, mk_isr, List.mem_cons, List.not_mem_nil, or_false, or_true, false_or, true_or, Nat.reduceEqDiff, Nat.reduceAdd, Nat.reduceSub, Nat.reduceLT, Nat.reduceLeDiff, ↓reduceIte, if_true, if_false, List.getElem?_cons_zero, List.getElem?_cons_succ, List.set_cons_zero, List.set_cons_succ, List.length_cons, List.length_nil, mz_s1, mz_s2, mz_cl, true_and, and_true, false_and, and_false, List.append_nil, mk_b0, mk_b1, mk_b2, mk_bn, Value.int.injEq, Option.toList_some, Option.toList_none, List.cons_append, List.nil_append, Classical.not_not, Option.some.injEq, reduceCtorEq, ne_eq, not_true_eq_false, not_false_eq_true, false_implies, true_implies, ev_36, ev_41, ev_79, ft_4_1, fn_4_1, ev_56, ev_40, mz_rl d_Reproducer_copyDeck_3, mz_rl d_Reproducer_copyDeck_5, mz_rl d_Reproducer_copyDeck_6, mz_rl d_Reproducer_copyDeck_9, mz_rl d_Reproducer_copyDeck_12, mz_rl d_Reproducer_copyDeck_13, mz_rl d_Reproducer_copyDeck_14, mz_rl d_Reproducer_copyDeck_75, mz_rl d_Reproducer_copyDeck_77, mz_rl d_Reproducer_copyDeck_78, mz_rl d_Reproducer_copyDeck_81, j_Reproducer_copyDeck_9, nF_8, k1, nI_leI (show sz < 2 ^ 31 by omega) (show i < 2 ^ 31 by omega), show ¬ sz ≤ i by omega]
    refine mz_callV (by simp only [d_Reproducer_copyDeck_16, Nat.reduceAdd]) g_8_26 rfl (fun _ _ h => h) (c_Deck_at G mk_P _ H k1 k2 (show i < 200 by omega) e1.1) k1 rfl rfl ⟨by decide, by show 2 * i + 0 ≤ 400; omega, by show 17 * i + 0 ≤ 3400; omega⟩ (Nat.le_of_ble_eq_true rfl) rfl ?_; intro v_ n_ f_ h_; obtain ⟨rfl, hn_, hf_⟩ := h_; replace hn_ := hn_.symm; replace hf_ := hf_.symm; subst hn_; subst hf_
    refine mz_go [23] 12 ?_
    simp only [mz_r0, mk_lit, mk_fin, mk_cat, mk_fit, mk_nar, mk_cls, mk_ty, mk_isr, List.mem_cons, List.not_mem_nil, or_false, or_true, false_or, true_or, Nat.reduceEqDiff, Nat.reduceAdd, Nat.reduceSub, Nat.reduceLT, Nat.reduceLeDiff, ↓reduceIte, if_true, if_false, List.getElem?_cons_zero, List.getElem?_cons_succ, List.set_cons_zero, List.set_cons_succ, List.length_cons, List.length_nil, mz_s1, mz_s2, mz_cl, true_and, and_true, false_and, and_false, List.append_nil, mk_b0, mk_b1, mk_b2, mk_bn, Value.int.injEq, Option.toList_some, Option.toList_none, List.cons_append, List.nil_append, Classical.not_not, Option.some.injEq, reduceCtorEq, ne_eq, not_true_eq_false, not_false_eq_true, false_implies, true_implies, ev_41, ev_79, ft_8_0, fn_8_0, mz_rl d_Reproducer_copyDeck_19, mz_rl d_Reproducer_copyDeck_20, nF_8, k13]
    refine mz_callV (by simp only [d_Reproducer_copyDeck_23, Nat.reduceAdd]) g_8_30 rfl (fun _ _ h => h) (c_Board_bringFromCard G mk_P _ H kB hok hC hx h14 h15 (by decide) (by decide) (by omega) (by omega) (by decide)) kB.1 rfl rfl ⟨by decide, by show 2 * i + 0 + 0 ≤ 400; omega, by show 17 * i + 0 + 0 ≤ 3400; omega⟩ (Nat.le_of_ble_eq_true rfl) rfl ?_; intro v_ n_ f_ h_; obtain ⟨rfl, hn_, hf_⟩ := h_; replace hn_ := hn_.symm; replace hf_ := hf_.symm; subst hn_; subst hf_
    obtain ⟨y, hy⟩ : ∃ y, y = brC F T (s (c i)) 0 16 w (cpy (fun _ => -1) gc 16, nI 0) := ⟨_, rfl⟩
    rw [← hy]
    obtain ⟨y1, y2⟩ := brC_ok (q := 0) (N := 16) (z := (cpy (fun _ => -1) gc 16, nI 0)) hok (hC _ hx).2.2 fill_ok (Or.inl rfl) w (Nat.le_refl _)
    rw [← hy] at y1 y2
    obtain ⟨y3, y4⟩ := brC_col (T := T) (gc := gc) hok (hC _ hx).2.2
    rw [← hy] at y3 y4
    obtain ⟨H2, hH2⟩ : ∃ H2, H2 = jH H 14 15 0 16 y.1 y.2 := ⟨_, rfl⟩
    rw [← hH2]
    have q14 : H2 14 = .inr (6, [.int (nI 0), .ref 15, .int y.2]) := by rw [hH2]; exact mz_u_s _ _ _
    have q15 : H2 15 = aI 16 y.1 := by rw [hH2]; unfold jH; rw [mz_u_n (by decide), mz_u_s]
    have qo : ∀ z, z ≠ 14 → z ≠ 15 → H2 z = H z := fun z z1 z2 => by rw [hH2]; unfold jH; rw [mz_u_n z1, mz_u_n z2]
    have q13 := (qo 13 (by decide) (by decide)).trans k13
    have q4 := (qo 4 (by decide) (by decide)).trans k4
    have qe := (qo e (by omega) (by omega)).trans hHe
    have qea := (qo ea (by omega) (by omega)).trans hHea
    have qC : Cd H2 (K + i) s := by rw [hH2]; exact Cd_u (Cd_u hC (by decide) _) (by decide) _
    have qF : Fr f H2 [4, 14, 15, e, ea] := by rw [hH2]; exact Fr_u (Fr_u hF (Or.inl (by simp)) _) (Or.inl (by simp)) _
    have stop : ∀ x : Nat, x ≠ 0 → cdPost f e ea si K (x, i, s, ci) (some (.int (nI i))) (172 + 2 * (K + i)) (mz_u H2 4 (.inr (5, [.int (nI x), .int (nI i)]))) := fun x hx0 =>
      ⟨gi, y.1, y.2, rfl, rfl, by show K + i ≤ 200; omega, by show si + i ≤ 200; omega, Fr_u qF (Or.inl (by simp)) _, by unfold lightC; rw [if_neg hx0]; exact mz_u_s _ _ _, by rw [mz_u_n (by decide)]; exact q14, by rw [mz_u_n (by decide)]; exact q15, by rw [mz_u_n (by omega)]; exact qe, by rw [mz_u_n (by omega)]; exact qea, hPi, Cd_u qC (by decide) _⟩
    refine mz_go [41, 57, 63] 30 ?_
    have z0 : (y.2 = 0) = (y.2 = nI 0) := rfl
    simp only [mz_r0, mk_lit, mk_fin, mk_cat, mk_fit, mk_nar, mk_cls, mk_ty, mk_isr, List.mem_cons, List.not_mem_nil, or_false, or_true, false_or, true_or, Nat.reduceEqDiff, Nat.reduceAdd, Nat.reduceSub, Nat.reduceLT, Nat.reduceLeDiff, ↓reduceIte, if_true, if_false, List.getElem?_cons_zero, List.getElem?_cons_succ, List.set_cons_zero, List.set_cons_succ, List.length_cons, List.length_nil, mz_s1, mz_s2, mz_cl, true_and, and_true, false_and, and_false, List.append_nil, mk_b0, mk_b1, mk_b2, mk_bn, Value.int.injEq, Option.toList_some, Option.toList_none, List.cons_append, List.nil_append, Classical.not_not, Option.some.injEq, reduceCtorEq, ne_eq, not_true_eq_false, not_false_eq_true, false_implies, true_implies, ev_41, ev_79, ft_8_0, fn_8_0, ft_6_2, fn_6_2, ev_49, ev_40, ev_0, ev_36, ev_54, mz_rl d_Reproducer_copyDeck_26, mz_rl d_Reproducer_copyDeck_27, mz_rl d_Reproducer_copyDeck_30, mz_rl d_Reproducer_copyDeck_33, mz_rl d_Reproducer_copyDeck_36, mz_rl d_Reproducer_copyDeck_38, mz_rl d_Reproducer_copyDeck_39, mz_rl d_Reproducer_copyDeck_45, mz_rl d_Reproducer_copyDeck_47, mz_rl d_Reproducer_copyDeck_49, mz_rl d_Reproducer_copyDeck_52, mz_rl d_Reproducer_copyDeck_54, mz_rl d_Reproducer_copyDeck_55, mz_rl d_Reproducer_copyDeck_61, mz_rl d_Reproducer_copyDeck_62, j_Reproducer_copyDeck_33, j_Reproducer_copyDeck_49, nF_8, q13, q14, nI_ltI (show i < 2 ^ 31 by omega) (show r < 2 ^ 31 by omega)]
    refine ⟨fun hc0 => ⟨fun hc1 => ?_, fun hc1 => ?_⟩, fun hc0 => ?_⟩
    · have hcl := y3.mp hc0
      rw [hcl, if_neg (by decide), if_pos hc1] at hR
      have en9 : cpy (nwc y.1) (fun _ => 0) 16 = cpy (nsN F T (s (c i)) w) (fun _ => 0) 16 := by
        funext j
        unfold cpy
        by_cases hj : j < 16
        · rw [if_pos hj, if_pos hj]; unfold nwc nsN; rw [y4 hcl j hj]
        · rw [if_neg hj, if_neg hj]
      refine mz_callV (by simp only [d_Reproducer_copyDeck_63, Nat.reduceAdd]) g_8_46 rfl (fun _ _ h => h) (c_Reproducer_newCard G mk_P _ H2 q13 q14 q15 (by omega) (by unfold mz_e0; omega) y1) q13 rfl rfl ⟨by decide, by show 2 * i + 0 + 0 + 2 ≤ 400; omega, by show 17 * i + 0 + 0 + 17 ≤ 3400; omega⟩ (Nat.le_of_ble_eq_true rfl) rfl ?_; intro v_ n_ f_ h_; obtain ⟨rfl, hn_, hf_⟩ := h_; replace hn_ := hn_.symm; replace hf_ := hf_.symm; subst hn_; subst hf_
      have nK := Cd_new qC (nwc_sg y1)
      rw [en9] at nK ⊢
      obtain ⟨H3, hH3⟩ : ∃ H3, H3 = mz_u (mz_u H2 (172 + 2 * (K + i)) (.inr (2, [.ref (172 + 2 * (K + i) + 1)]))) (172 + 2 * (K + i) + 1) (aI 16 (fun j => nI (cpy (nsN F T (s (c i)) w) (fun _ => 0) 16 j))) := ⟨_, rfl⟩
      rw [← hH3] at nK ⊢
      have ro : ∀ z, z < 172 → H3 z = H2 z := fun z hz => by rw [hH3, mz_u_n (by omega), mz_u_n (by omega)]
      have re := (ro e he.2).trans qe
      have rea := (ro ea hea.2).trans qea
      have rc := (nK (K + i) (by omega)).1
      refine mz_callV (by simp only [d_Reproducer_copyDeck_66, Nat.reduceAdd]) g_8_50 rfl (fun _ _ h => h) (c_Deck_add G mk_P _ H3 re rea rc (show si + i < 200 by omega)) re rfl rfl ⟨by decide, by show 2 * i + 0 + 0 + 2 + 0 ≤ 400; omega, by show 17 * i + 0 + 0 + 17 + 0 ≤ 3400; omega⟩ (Nat.le_of_ble_eq_true rfl) rfl ?_; intro v_ n_ f_ h_; obtain ⟨rfl, hn_, hf_⟩ := h_; replace hn_ := hn_.symm; replace hf_ := hf_.symm; subst hn_; subst hf_
      have hnx := ih (i + 1) (mz_u (mz_u H3 ea (aQ 6 200 (va_up gi (si + i) (some (172 + 2 * (K + i)))))) e (.inr (4, [.ref ea, .int (nI (si + i + 1))]))) _ _ (va_up ci (si + i) (K + i)) y.1 y.2 (by omega) (by omega) hR (Fr_u (Fr_u (fun z hz hS => by
          rcases hz with hz | rfl
          · rw [ro z hz]; exact qF z (Or.inl hz) hS
          · rw [hH3, mz_u_n (by omega), mz_u_n (by omega)]; exact qF _ (Or.inr rfl) hS) (Or.inl (by simp)) _) (Or.inl (by simp)) _)
        (by rw [mz_u_n (by omega), mz_u_n (by omega), ro 4 (by decide), q4, hd4]) (by rw [mz_u_n (by omega), mz_u_n (by omega), ro 14 (by decide)]; exact q14) (by rw [mz_u_n (by omega), mz_u_n (by omega), ro 15 (by decide)]; exact q15) (mz_u_s _ _ _) (by rw [mz_u_n (Ne.symm heea), mz_u_s]) (Ps_add (Ps_mono hPi (by omega)) (by omega)) (Cd_u (Cd_u nK hea.2 _) he.2 _)
      refine mz_go [3] 12 ?_
      simp only [mz_r0, mk_lit, mk_fin, mk_cat, mk_fit, mk_nar, mk_cls, mk_ty, mk_isr, List.mem_cons, List.not_mem_nil, or_false, or_true, false_or, true_or, Nat.reduceEqDiff, Nat.reduceAdd, Nat.reduceSub, Nat.reduceLT, Nat.reduceLeDiff, ↓reduceIte, if_true, if_false, List.getElem?_cons_zero, List.getElem?_cons_succ, List.set_cons_zero, List.set_cons_succ, List.length_cons, List.length_nil, mz_s1, mz_s2, mz_cl, true_and, and_true, false_and, and_false, List.append_nil, mk_b0, mk_b1, mk_b2, mk_bn, Value.int.injEq, Option.toList_some, Option.toList_none, List.cons_append, List.nil_append, Classical.not_not, Option.some.injEq, reduceCtorEq, ne_eq, not_true_eq_false, not_false_eq_true, false_implies, true_implies, ev_48, ev_61, mz_rl d_Reproducer_copyDeck_69, mz_rl d_Reproducer_copyDeck_72, j_Reproducer_copyDeck_72, nF_8, nI_add]
      have en : 172 + 2 * (K + (i + 1)) = 172 + 2 * (K + i) + 2 := by omega
      have ek1 : 2 * (i + 1) = 2 * i + (r_Deck_at 0 0).cells + (r_Board_bringFromCard 0 0).cells + (r_Reproducer_newCard 2 17).cells + (r_Deck_add 0 0).cells := by show _ = 2 * i + 0 + 0 + 2 + 0; omega
      have ek2 : 17 * (i + 1) = 17 * i + (r_Deck_at 0 0).slots + (r_Board_bringFromCard 0 0).slots + (r_Reproducer_newCard 2 17).slots + (r_Deck_add 0 0).slots := by show _ = 17 * i + 0 + 0 + 17 + 0; omega
      rw [en, ek1, ek2] at hnx
      exact hnx
    · have hcl := y3.mp hc0
      rw [hcl, if_neg (by decide), if_neg hc1] at hR
      subst hR
      refine mz_callV (by simp only [d_Reproducer_copyDeck_57, Nat.reduceAdd]) g_8_40 rfl (fun _ _ h => h) (c_FaultLight_stopAt G mk_P _ H2 (x := nI 4) (y := nI i) q4) q4 rfl rfl ⟨by decide, by show 2 * i + 0 + 0 + 0 ≤ 400; omega, by show 17 * i + 0 + 0 + 0 ≤ 3400; omega⟩ (Nat.le_of_ble_eq_true rfl) rfl ?_; intro v_ n_ f_ h_; obtain ⟨rfl, hn_, hf_⟩ := h_; replace hn_ := hn_.symm; replace hf_ := hf_.symm; subst hn_; subst hf_
      refine mz_go [] 12 ?_
      simp only [mz_r0, mk_lit, mk_fin, mk_cat, mk_fit, mk_nar, mk_cls, mk_ty, mk_isr, List.mem_cons, List.not_mem_nil, or_false, or_true, false_or, true_or, Nat.reduceEqDiff, Nat.reduceAdd, Nat.reduceSub, Nat.reduceLT, Nat.reduceLeDiff, ↓reduceIte, if_true, if_false, List.getElem?_cons_zero, List.getElem?_cons_succ, List.set_cons_zero, List.set_cons_succ, List.length_cons, List.length_nil, mz_s1, mz_s2, mz_cl, true_and, and_true, false_and, and_false, List.append_nil, mk_b0, mk_b1, mk_b2, mk_bn, Value.int.injEq, Option.toList_some, Option.toList_none, List.cons_append, List.nil_append, Classical.not_not, Option.some.injEq, reduceCtorEq, ne_eq, not_true_eq_false, not_false_eq_true, false_implies, true_implies, ev_64, mz_rl d_Reproducer_copyDeck_60, nF_8]
      exact stop 4 (by decide)
    · have hcl : clB F T (s (c i)) 0 w 16 = true := by
        cases e9 : clB F T (s (c i)) 0 w 16 with
        | true => rfl
        | false => exact absurd (y3.mpr e9) hc0
      rw [hcl, if_pos rfl] at hR
      subst hR
      refine mz_callV (by simp only [d_Reproducer_copyDeck_41, Nat.reduceAdd]) g_8_40 rfl (fun _ _ h => h) (c_FaultLight_stopAt G mk_P _ H2 (x := nI 2) (y := nI i) q4) q4 rfl rfl ⟨by decide, by show 2 * i + 0 + 0 + 0 ≤ 400; omega, by show 17 * i + 0 + 0 + 0 ≤ 3400; omega⟩ (Nat.le_of_ble_eq_true rfl) rfl ?_; intro v_ n_ f_ h_; obtain ⟨rfl, hn_, hf_⟩ := h_; replace hn_ := hn_.symm; replace hf_ := hf_.symm; subst hn_; subst hf_
      refine mz_go [] 12 ?_
      simp only [mz_r0, mk_lit, mk_fin, mk_cat, mk_fit, mk_nar, mk_cls, mk_ty, mk_isr, List.mem_cons, List.not_mem_nil, or_false, or_true, false_or, true_or, Nat.reduceEqDiff, Nat.reduceAdd, Nat.reduceSub, Nat.reduceLT, Nat.reduceLeDiff, ↓reduceIte, if_true, if_false, List.getElem?_cons_zero, List.getElem?_cons_succ, List.set_cons_zero, List.set_cons_succ, List.length_cons, List.length_nil, mz_s1, mz_s2, mz_cl, true_and, and_true, false_and, and_false, List.append_nil, mk_b0, mk_b1, mk_b2, mk_bn, Value.int.injEq, Option.toList_some, Option.toList_none, List.cons_append, List.nil_append, Classical.not_not, Option.some.injEq, reduceCtorEq, ne_eq, not_true_eq_false, not_false_eq_true, false_implies, true_implies, ev_64, mz_rl d_Reproducer_copyDeck_44, nF_8]
      exact stop 2 (by decide)
end
section
theorem c_Reproducer_copyDeck (G : mz_G) (f : mz_H) {b w d a e ea sz si r K : Nat} {F T L : Nat → Nat} {u0 w0 cl : Int32} {g gi : Nat → Option Nat} {c ci : Nat → Nat} {gc : Nat → Int32} {s : Nat → Nat → Nat} (h13 : f 13 = .inr (8, [.ref 14])) (h14 : f 14 = .inr (6, [.int (nI 0), .ref 15, .int cl])) (h15 : f 15 = aI 16 gc) (hB : Bd f b w F T L) (hok : BdOk w F T L) (hb : 126 < b ∧ b + 3 < 172) (hd1 : f d = .inr (4, [.ref a, .int (nI sz)])) (hd2 : f a = aQ 6 200 g) (he1 : f e = .inr (4, [.ref ea, .int (nI si)])) (he2 : f ea = aQ 6 200 gi) (hd4 : f 4 = .inr (5, [.int u0, .int w0])) (hd : 15 < d ∧ d < 172) (ha : 15 < a ∧ a < 172) (he : 15 < e ∧ e < 172) (hea : 15 < ea ∧ ea < 172) (hde : d ≠ e) (hdea : d ≠ ea) (hae : a ≠ e) (haea : a ≠ ea) (heea : e ≠ ea) (heb : e < b ∨ b + 3 < e) (heab : ea < b ∨ b + 3 < ea) (hs : sz ≤ 200) (hP : Ps g sz c K) (hPi : Ps gi si ci K) (hC : Cd f K s) (hr : si + r ≤ 200) (hKr : K + r ≤ 200) :
    mz_Ct G mk_P y_Reproducer_copyDeck b_Reproducer_copyDeck 7 (some .int) (r_Reproducer_copyDeck 400 3400) [.ref 13, .ref b, .ref d, .ref e, .int (nI r), .ref 4] (172 + 2 * K) f (cdPost f e ea si K (cdF F T w r K si c sz 0 s ci)) := by
  refine mk_Ct 8 false [some (.ref 13), some (.ref b), some (.ref d), some (.ref e), some (.int (nI r)), some (.ref 4), none] (by decide) rfl (by decide) (Nat.le_of_ble_eq_true rfl) rfl ?_
  refine mz_go [3] 12 ?_
  simp only [mz_r0, mk_lit, mk_fin, mk_cat, mk_fit, mk_nar, mk_cls, mk_ty, mk_isr, List.mem_cons, List.not_mem_nil, or_false, or_true, false_or, true_or, Nat.reduceEqDiff, Nat.reduceAdd, Nat.reduceSub, Nat.reduceLT, Nat.reduceLeDiff, ↓reduceIte, if_true, if_false, List.getElem?_cons_zero, List.getElem?_cons_succ, List.set_cons_zero, List.set_cons_succ, List.length_cons, List.length_nil, mz_s1, mz_s2, mz_cl, true_and, and_true, false_and, and_false, List.append_nil, mk_b0, mk_b1, mk_b2, mk_bn, Value.int.injEq, Option.toList_some, Option.toList_none, List.cons_append, List.nil_append, Classical.not_not, Option.some.injEq, reduceCtorEq, ne_eq, not_true_eq_false, not_false_eq_true, false_implies, true_implies, ev_0, ev_42, mz_rl d_Reproducer_copyDeck_0, mz_rl d_Reproducer_copyDeck_1, nF_8]
  exact l_Reproducer_copyDeck G f h13 hB hok hb hd1 hd2 hd4 hd ha he hea hde hdea hae haea heea heb heab hs hP hr hKr _ sz 0 f s gi ci gc cl (by omega) (by omega) rfl Fr_rf rfl h14 h15 he1 he2 hPi hC
/-- a card's signs behind the gang punch -/
def pgN (F T t : Nat → Nat) (w : Nat) (u : Nat → Nat) : Nat → Nat := fun j => if j < 16 ∧ arN F T t j w ≠ -1 then (arN F T t j w).toNatClampNeg else u j
/-- a deck's run through the gang punch, from card i on, behind the master ms: fault, card, the cards' signs -/
def gaF (F T : Nat → Nat) (w col : Nat) (c : Nat → Nat) : Nat → Nat → Option Nat → (Nat → Nat → Nat) → Nat × Nat × (Nat → Nat → Nat)
  | 0, i, _, s => (0, i, s)
  | m + 1, i, ms, s => if zn (s (c i) col) = 2 then gaF F T w col c m (i + 1) (some (c i)) s else match ms with
    | none => gaF F T w col c m (i + 1) none s
    | some x => if cpB F T (s x) (s (c i)) 0 w = true then (if clB F T (s x) 0 w 16 = true then (2, i, s) else gaF F T w col c m (i + 1) (some x) (va_up s (c i) (pgN F T (s x) w (s (c i))))) else (1, i, s)
def msV (ms : Option Nat) : Value := match ms with
  | none => .null
  | some x => .ref (172 + 2 * x)
def gaPost (f : mz_H) (n K : Nat) (R : Nat × Nat × (Nat → Nat → Nat)) (v : Option Value) (n' : Nat) (F' : mz_H) : Prop := ∃ gc cl, v = some (.int (nI R.2.1)) ∧ n' = n ∧ Fr f F' [4, 14, 15] ∧ F' 4 = lightC R.1 R.2.1 ∧ F' 14 = .inr (6, [.int (nI 0), .ref 15, .int cl]) ∧ F' 15 = aI 16 gc ∧ Cd F' K R.2.2
theorem l_Reproducer_punchGangs (G : mz_G) (n : Nat) (f : mz_H) {b w d a sz col K : Nat} {F T L : Nat → Nat} {u0 w0 : Int32} {g : Nat → Option Nat} {c : Nat → Nat} (h13 : f 13 = .inr (8, [.ref 14])) (hB : Bd f b w F T L) (hok : BdOk w F T L) (hb : 126 < b ∧ b + 3 < 172) (hd1 : f d = .inr (4, [.ref a, .int (nI sz)])) (hd2 : f a = aQ 6 200 g) (hd4 : f 4 = .inr (5, [.int u0, .int w0])) (hd : 15 < d ∧ d < 172) (ha : 15 < a ∧ a < 172) (hs : sz ≤ 200) (hP : Ps g sz c K) (hK : K ≤ 200) (hcol : col < 16) (R : Nat × Nat × (Nat → Nat → Nat)) :
    ∀ m i H s gc cl ms w7, i + m = sz → (∀ x, ms = some x → x < K) → gaF F T w col c m i ms s = R → Fr f H [4, 14, 15] → H 4 = f 4 → H 14 = .inr (6, [.int (nI 0), .ref 15, .int cl]) → H 15 = aI 16 gc → Cd H K s →
      mz_X G mk_P 8 false b_Reproducer_punchGangs 8 (some .int) (r_Reproducer_punchGangs 0 0) (gaPost f n K R) (fun _ _ _ => False) 6 [some (.ref 13), some (.ref b), some (.ref d), some (.int (nI col)), some (.ref 4), some (msV ms), some (.int (nI i)), w7] [] 0 0 n H := by
  intro m
  induction m with
  | zero =>
    intro i H s gc cl ms w7 hi hms hR hF h4 h14 h15 hC
    subst hR
    have k1 : H d = .inr (4, [.ref a, .int (nI sz)]) := by rw [hF d (Or.inl (by omega)) (by simp; omega)]; exact hd1
    have k4 : H 4 = .inr (5, [.int u0, .int w0]) := by rw [h4]; exact hd4
    refine mz_go [116] 12 ?_
    simp only [mz_r0, mk_lit, mk_fin, mk_cat, mk_fit, mk_nar, mk_cls, mk_ty, mk_isr, List.mem_cons, List.not_mem_nil, or_false, or_true, false_or, true_or, Nat.reduceEqDiff, Nat.reduceAdd, Nat.reduceSub, Nat.reduceLT, Nat.reduceLeDiff, ↓reduceIte, if_true, if_false, List.getElem?_cons_zero, List.getElem?_cons_succ, List.set_cons_zero, List.set_cons_succ, List.length_cons, List.length_nil, mz_s1, mz_s2, mz_cl, true_and, and_true, false_and, and_false, List.append_nil, mk_b0, mk_b1, mk_b2, mk_bn, Value.int.injEq, Option.toList_some, Option.toList_none, List.cons_append, List.nil_append, Classical.not_not, Option.some.injEq, reduceCtorEq, ne_eq, not_true_eq_false, not_false_eq_true, false_implies, true_implies, ev_36, ev_41, ev_79, ft_4_1, fn_4_1, ev_56, ev_40, mz_rl d_Reproducer_punchGangs_6, mz_rl d_Reproducer_punchGangs_8, mz_rl d_Reproducer_punchGangs_9, mz_rl d_Reproducer_punchGangs_12, mz_rl d_Reproducer_punchGangs_15, mz_rl d_Reproducer_punchGangs_16, mz_rl d_Reproducer_punchGangs_18, mz_rl d_Reproducer_punchGangs_110, mz_rl d_Reproducer_punchGangs_112, mz_rl d_Reproducer_punchGangs_113, j_Reproducer_punchGangs_12, nF_8, k1, nI_leI (show sz < 2 ^ 31 by omega) (show i < 2 ^ 31 by omega), show sz ≤ i by omega]
    refine mz_callV (by simp only [d_Reproducer_punchGangs_116, Nat.reduceAdd]) g_8_54 rfl (fun _ _ h => h) (c_FaultLight_allDone G mk_P _ H (x := nI sz) k4) k4 rfl rfl (by decide) (Nat.le_of_ble_eq_true rfl) rfl ?_; intro v_ n_ f_ h_; obtain ⟨rfl, hn_, hf_⟩ := h_; replace hn_ := hn_.symm; replace hf_ := hf_.symm; subst hn_; subst hf_
    refine mz_go [] 12 ?_
    simp only [mz_r0, mk_lit, mk_fin, mk_cat, mk_fit, mk_nar, mk_cls, mk_ty, mk_isr, List.mem_cons, List.not_mem_nil, or_false, or_true, false_or, true_or, Nat.reduceEqDiff, Nat.reduceAdd, Nat.reduceSub, Nat.reduceLT, Nat.reduceLeDiff, ↓reduceIte, if_true, if_false, List.getElem?_cons_zero, List.getElem?_cons_succ, List.set_cons_zero, List.set_cons_succ, List.length_cons, List.length_nil, mz_s1, mz_s2, mz_cl, true_and, and_true, false_and, and_false, List.append_nil, mk_b0, mk_b1, mk_b2, mk_bn, Value.int.injEq, Option.toList_some, Option.toList_none, List.cons_append, List.nil_append, Classical.not_not, Option.some.injEq, reduceCtorEq, ne_eq, not_true_eq_false, not_false_eq_true, false_implies, true_implies, ev_64, mz_rl d_Reproducer_punchGangs_119, nF_8]
    exact ⟨gc, cl, by show some (Value.int (nI sz)) = some (Value.int (nI i)); congr 3; omega, rfl, Fr_u hF (Or.inl (by simp)) _, mz_u_s _ _ _, by rw [mz_u_n (by decide)]; exact h14, by rw [mz_u_n (by decide)]; exact h15, Cd_u hC (by decide) _⟩
  | succ m ih =>
    intro i H s gc cl ms w7 hi hms hR hF h4 h14 h15 hC
    unfold gaF at hR
    have k1 : H d = .inr (4, [.ref a, .int (nI sz)]) := by rw [hF d (Or.inl (by omega)) (by simp; omega)]; exact hd1
    have k2 : H a = aQ 6 200 g := by rw [hF a (Or.inl (by omega)) (by simp; omega)]; exact hd2
    have k4 : H 4 = .inr (5, [.int u0, .int w0]) := by rw [h4]; exact hd4
    have k13 : H 13 = .inr (8, [.ref 14]) := by rw [hF 13 (Or.inl (by decide)) (by simp)]; exact h13
    have kB : Bd H b w F T L := by
      unfold Bd
      rw [hF b (Or.inl (by omega)) (by simp; omega), hF (b + 1) (Or.inl (by omega)) (by simp; omega), hF (b + 2) (Or.inl (by omega)) (by simp; omega), hF (b + 3) (Or.inl (by omega)) (by simp; omega)]
      exact hB
    have e1 := hP i (by omega)
    have q1 := hC _ e1.2
    have hz := zn_lt (s (c i) col)
    refine mz_go [18] 12 ?_
    simp only [mz_r0, mk_lit, mk_fin, mk_cat, mk_fit, mk_nar, mk_cls, mk_ty, mk_isr, List.mem_cons, List.not_mem_nil, or_false, or_true, false_or, true_or, Nat.reduceEqDiff, Nat.reduceAdd, Nat.reduceSub, Nat.reduceLT, Nat.reduceLeDiff, ↓reduceIte, if_true, if_false, List.getElem?_cons_zero, List.getElem?_cons_succ, List.set_cons_zero, List.set_cons_succ, List.length_cons, List.length_nil, mz_s1, mz_s2, mz_cl, true_and, and_true, false_and, and_false, List.append_nil, mk_b0, mk_b1, mk_b2, mk_bn, Value.int.injEq, Option.toList_some, Option.toList_none, List.cons_append, List.nil_append, Classical.not_not, Option.some.injEq, reduceCtorEq, ne_eq, not_true_eq_false, not_false_eq_true, false_implies, true_implies, ev_36, ev_41, ev_79, ft_4_1, fn_4_1, ev_56, ev_40, mz_rl d_Reproducer_punchGangs_6, mz_rl d_Reproducer_punchGangs_8, mz_rl d_Reproducer_punchGangs_9, mz_rl d_Reproducer_punchGangs_12, mz_rl d_Reproducer_punchGangs_15, mz_rl d_Reproducer_punchGangs_16, mz_rl d_Reproducer_punchGangs_110, mz_rl d_Reproducer_punchGangs_112, mz_rl d_Reproducer_punchGangs_113, mz_rl d_Reproducer_punchGangs_116, j_Reproducer_punchGangs_12, nF_8, k1, nI_leI (show sz < 2 ^ 31 by omega) (show i < 2 ^ 31 by omega), show ¬ sz ≤ i by omega]
    refine mz_callV (by simp only [d_Reproducer_punchGangs_18, Nat.reduceAdd]) g_8_26 rfl (fun _ _ h => h) (c_Deck_at G mk_P _ H k1 k2 (show i < 200 by omega) e1.1) k1 rfl rfl (by decide) (Nat.le_of_ble_eq_true rfl) rfl ?_; intro v_ n_ f_ h_; obtain ⟨rfl, hn_, hf_⟩ := h_; replace hn_ := hn_.symm; replace hf_ := hf_.symm; subst hn_; subst hf_
    refine mz_go [30] 12 ?_
    simp only [mz_r0, mk_lit, mk_fin, mk_cat, mk_fit, mk_nar, mk_cls, mk_ty, mk_isr, List.mem_cons, List.not_mem_nil, or_false, or_true, false_or, true_or, Nat.reduceEqDiff, Nat.reduceAdd, Nat.reduceSub, Nat.reduceLT, Nat.reduceLeDiff, ↓reduceIte, if_true, if_false, List.getElem?_cons_zero, List.getElem?_cons_succ, List.set_cons_zero, List.set_cons_succ, List.length_cons, List.length_nil, mz_s1, mz_s2, mz_cl, true_and, and_true, false_and, and_false, List.append_nil, mk_b0, mk_b1, mk_b2, mk_bn, Value.int.injEq, Option.toList_some, Option.toList_none, List.cons_append, List.nil_append, Classical.not_not, Option.some.injEq, reduceCtorEq, ne_eq, not_true_eq_false, not_false_eq_true, false_implies, true_implies, ev_46, ev_40, ev_79, ft_2_0, fn_2_0, ev_37, ev_68, mz_rl d_Reproducer_punchGangs_21, mz_rl d_Reproducer_punchGangs_23, mz_rl d_Reproducer_punchGangs_25, mz_rl d_Reproducer_punchGangs_28, mz_rl d_Reproducer_punchGangs_29, nF_8, q1.1, q1.2.1, vp_in_nI hcol (show 16 < 2 ^ 31 by decide), nI_clamp (show col < 2 ^ 31 by omega)]
    refine mz_callS (by simp only [d_Reproducer_punchGangs_30, Nat.reduceAdd]) g_8_64 rfl (fun _ _ h => h) (c_Office_zoneOf G mk_P _ H (q1.2.2 col hcol)) (by decide) (Nat.le_of_ble_eq_true rfl) rfl ?_; intro v_ n_ f_ h_; obtain ⟨rfl, hn_, hf_⟩ := h_; replace hn_ := hn_.symm; replace hf_ := hf_.symm; subst hn_; subst hf_
    have next : ∀ H s gc cl ms, (∀ x, ms = some x → x < K) → gaF F T w col c m (i + 1) ms s = R → Fr f H [4, 14, 15] → H 4 = f 4 → H 14 = .inr (6, [.int (nI 0), .ref 15, .int cl]) → H 15 = aI 16 gc → Cd H K s →
        mz_X G mk_P 8 false b_Reproducer_punchGangs 8 (some .int) (r_Reproducer_punchGangs 0 0) (gaPost f n K R) (fun _ _ _ => False) 104 [some (.ref 13), some (.ref b), some (.ref d), some (.int (nI col)), some (.ref 4), some (msV ms), some (.int (nI i)), some (.ref (172 + 2 * c i))] [] 0 0 n H := by
      intro H s gc cl ms a1 a0 a2 a3 a4 a5 a6
      have hcat : (msV ms).category = 1 := by cases ms <;> rfl
      refine mz_go [6] 12 ?_
      simp only [mz_r0, mk_lit, mk_fin, mk_cat, mk_fit, mk_nar, mk_cls, mk_ty, mk_isr, List.mem_cons, List.not_mem_nil, or_false, or_true, false_or, true_or, Nat.reduceEqDiff, Nat.reduceAdd, Nat.reduceSub, Nat.reduceLT, Nat.reduceLeDiff, ↓reduceIte, if_true, if_false, List.getElem?_cons_zero, List.getElem?_cons_succ, List.set_cons_zero, List.set_cons_succ, List.length_cons, List.length_nil, mz_s1, mz_s2, mz_cl, true_and, and_true, false_and, and_false, List.append_nil, mk_b0, mk_b1, mk_b2, mk_bn, Value.int.injEq, Option.toList_some, Option.toList_none, List.cons_append, List.nil_append, Classical.not_not, Option.some.injEq, reduceCtorEq, ne_eq, not_true_eq_false, not_false_eq_true, false_implies, true_implies, ev_48, ev_61, mz_rl d_Reproducer_punchGangs_104, mz_rl d_Reproducer_punchGangs_107, j_Reproducer_punchGangs_107, nF_8, nI_add, hcat]
      exact ih (i + 1) H s gc cl ms _ (by omega) a1 a0 a2 a3 a4 a5 a6
    by_cases hm : zn (s (c i) col) = 2
    · rw [if_pos hm] at hR
      have nx := next H s gc cl (some (c i)) (fun x hx => by cases hx; exact e1.2) hR hF h4 h14 h15 hC
      cases ms with
      | none =>
        refine mz_go [104] 12 ?_
        simp only [mz_r0, mk_lit, mk_fin, mk_cat, mk_fit, mk_nar, mk_cls, mk_ty, mk_isr, List.mem_cons, List.not_mem_nil, or_false, or_true, false_or, true_or, Nat.reduceEqDiff, Nat.reduceAdd, Nat.reduceSub, Nat.reduceLT, Nat.reduceLeDiff, ↓reduceIte, if_true, if_false, List.getElem?_cons_zero, List.getElem?_cons_succ, List.set_cons_zero, List.set_cons_succ, List.length_cons, List.length_nil, mz_s1, mz_s2, mz_cl, true_and, and_true, false_and, and_false, List.append_nil, mk_b0, mk_b1, mk_b2, mk_bn, Value.int.injEq, Option.toList_some, Option.toList_none, List.cons_append, List.nil_append, Classical.not_not, Option.some.injEq, reduceCtorEq, ne_eq, not_true_eq_false, not_false_eq_true, false_implies, true_implies, ev_0, ev_52, ev_40, ev_46, ev_61, ev_62, ev_41, ev_79, ft_8_0, fn_8_0, mz_rl d_Reproducer_punchGangs_33, mz_rl d_Reproducer_punchGangs_34, mz_rl d_Reproducer_punchGangs_37, mz_rl d_Reproducer_punchGangs_39, mz_rl d_Reproducer_punchGangs_41, mz_rl d_Reproducer_punchGangs_44, mz_rl d_Reproducer_punchGangs_46, mz_rl d_Reproducer_punchGangs_49, mz_rl d_Reproducer_punchGangs_50, mz_rl d_Reproducer_punchGangs_52, mz_rl d_Reproducer_punchGangs_53, mz_rl d_Reproducer_punchGangs_56, j_Reproducer_punchGangs_34, j_Reproducer_punchGangs_41, j_Reproducer_punchGangs_46, nF_8, hm, msV]
        exact nx
      | some x =>
        refine mz_go [104] 12 ?_
        simp only [mz_r0, mk_lit, mk_fin, mk_cat, mk_fit, mk_nar, mk_cls, mk_ty, mk_isr, List.mem_cons, List.not_mem_nil, or_false, or_true, false_or, true_or, Nat.reduceEqDiff, Nat.reduceAdd, Nat.reduceSub, Nat.reduceLT, Nat.reduceLeDiff, ↓reduceIte, if_true, if_false, List.getElem?_cons_zero, List.getElem?_cons_succ, List.set_cons_zero, List.set_cons_succ, List.length_cons, List.length_nil, mz_s1, mz_s2, mz_cl, true_and, and_true, false_and, and_false, List.append_nil, mk_b0, mk_b1, mk_b2, mk_bn, Value.int.injEq, Option.toList_some, Option.toList_none, List.cons_append, List.nil_append, Classical.not_not, Option.some.injEq, reduceCtorEq, ne_eq, not_true_eq_false, not_false_eq_true, false_implies, true_implies, ev_0, ev_52, ev_40, ev_46, ev_61, ev_62, ev_41, ev_79, ft_8_0, fn_8_0, mz_rl d_Reproducer_punchGangs_33, mz_rl d_Reproducer_punchGangs_34, mz_rl d_Reproducer_punchGangs_37, mz_rl d_Reproducer_punchGangs_39, mz_rl d_Reproducer_punchGangs_41, mz_rl d_Reproducer_punchGangs_44, mz_rl d_Reproducer_punchGangs_46, mz_rl d_Reproducer_punchGangs_49, mz_rl d_Reproducer_punchGangs_50, mz_rl d_Reproducer_punchGangs_52, mz_rl d_Reproducer_punchGangs_53, mz_rl d_Reproducer_punchGangs_56, j_Reproducer_punchGangs_34, j_Reproducer_punchGangs_41, j_Reproducer_punchGangs_46, nF_8, hm, msV]
        exact nx
    · have hne : (nI (zn (s (c i) col)) = nI 2) = False := eq_false (fun z => hm ((nI_eq (by omega) (by decide)).mp z))
      rw [if_neg hm] at hR
      cases ms with
      | none =>
        have nx := next H s gc cl none (fun x hx => by cases hx) hR hF h4 h14 h15 hC
        refine mz_go [104] 12 ?_
        simp only [mz_r0, mk_lit, mk_fin, mk_cat, mk_fit, mk_nar, mk_cls, mk_ty, mk_isr, List.mem_cons, List.not_mem_nil, or_false, or_true, false_or, true_or, Nat.reduceEqDiff, Nat.reduceAdd, Nat.reduceSub, Nat.reduceLT, Nat.reduceLeDiff, ↓reduceIte, if_true, if_false, List.getElem?_cons_zero, List.getElem?_cons_succ, List.set_cons_zero, List.set_cons_succ, List.length_cons, List.length_nil, mz_s1, mz_s2, mz_cl, true_and, and_true, false_and, and_false, List.append_nil, mk_b0, mk_b1, mk_b2, mk_bn, Value.int.injEq, Option.toList_some, Option.toList_none, List.cons_append, List.nil_append, Classical.not_not, Option.some.injEq, reduceCtorEq, ne_eq, not_true_eq_false, not_false_eq_true, false_implies, true_implies, ev_0, ev_52, ev_40, ev_46, ev_61, ev_62, ev_41, ev_79, ft_8_0, fn_8_0, mz_rl d_Reproducer_punchGangs_33, mz_rl d_Reproducer_punchGangs_34, mz_rl d_Reproducer_punchGangs_37, mz_rl d_Reproducer_punchGangs_39, mz_rl d_Reproducer_punchGangs_41, mz_rl d_Reproducer_punchGangs_44, mz_rl d_Reproducer_punchGangs_46, mz_rl d_Reproducer_punchGangs_49, mz_rl d_Reproducer_punchGangs_50, mz_rl d_Reproducer_punchGangs_52, mz_rl d_Reproducer_punchGangs_53, mz_rl d_Reproducer_punchGangs_56, j_Reproducer_punchGangs_34, j_Reproducer_punchGangs_41, j_Reproducer_punchGangs_46, nF_8, hne, msV]
        exact nx
      | some x =>
        have hx := hms x rfl
        refine mz_go [56] 20 ?_
        simp only [mz_r0, mk_lit, mk_fin, mk_cat, mk_fit, mk_nar, mk_cls, mk_ty, mk_isr, List.mem_cons, List.not_mem_nil, or_false, or_true, false_or, true_or, Nat.reduceEqDiff, Nat.reduceAdd, Nat.reduceSub, Nat.reduceLT, Nat.reduceLeDiff, ↓reduceIte, if_true, if_false, List.getElem?_cons_zero, List.getElem?_cons_succ, List.set_cons_zero, List.set_cons_succ, List.length_cons, List.length_nil, mz_s1, mz_s2, mz_cl, true_and, and_true, false_and, and_false, List.append_nil, mk_b0, mk_b1, mk_b2, mk_bn, Value.int.injEq, Option.toList_some, Option.toList_none, List.cons_append, List.nil_append, Classical.not_not, Option.some.injEq, reduceCtorEq, ne_eq, not_true_eq_false, not_false_eq_true, false_implies, true_implies, ev_36, ev_41, ev_79, ft_4_1, fn_4_1, ev_56, ev_0, ev_52, ev_40, ev_46, ev_61, ev_62, ft_8_0, fn_8_0, ev_48, mz_rl d_Reproducer_punchGangs_6, mz_rl d_Reproducer_punchGangs_8, mz_rl d_Reproducer_punchGangs_9, mz_rl d_Reproducer_punchGangs_12, mz_rl d_Reproducer_punchGangs_15, mz_rl d_Reproducer_punchGangs_16, mz_rl d_Reproducer_punchGangs_18, mz_rl d_Reproducer_punchGangs_33, mz_rl d_Reproducer_punchGangs_34, mz_rl d_Reproducer_punchGangs_37, mz_rl d_Reproducer_punchGangs_39, mz_rl d_Reproducer_punchGangs_41, mz_rl d_Reproducer_punchGangs_44, mz_rl d_Reproducer_punchGangs_46, mz_rl d_Reproducer_punchGangs_49, mz_rl d_Reproducer_punchGangs_50, mz_rl d_Reproducer_punchGangs_52, mz_rl d_Reproducer_punchGangs_53, mz_rl d_Reproducer_punchGangs_104, mz_rl d_Reproducer_punchGangs_107, mz_rl d_Reproducer_punchGangs_110, mz_rl d_Reproducer_punchGangs_112, mz_rl d_Reproducer_punchGangs_113, mz_rl d_Reproducer_punchGangs_116, j_Reproducer_punchGangs_12, j_Reproducer_punchGangs_34, j_Reproducer_punchGangs_41, j_Reproducer_punchGangs_46, j_Reproducer_punchGangs_107, nF_8, hne, k13, msV]
        refine mz_callV (by simp only [d_Reproducer_punchGangs_56, Nat.reduceAdd]) g_8_30 rfl (fun _ _ h => h) (c_Board_bringFromCard G mk_P _ H kB hok hC hx h14 h15 (by decide) (by decide) (by omega) (by omega) (by decide)) kB.1 rfl rfl (by decide) (Nat.le_of_ble_eq_true rfl) rfl ?_; intro v_ n_ f_ h_; obtain ⟨rfl, hn_, hf_⟩ := h_; replace hn_ := hn_.symm; replace hf_ := hf_.symm; subst hn_; subst hf_
        obtain ⟨y, hy⟩ : ∃ y, y = brC F T (s x) 0 16 w (cpy (fun _ => -1) gc 16, nI 0) := ⟨_, rfl⟩
        rw [← hy]
        obtain ⟨y1, y2⟩ := brC_ok (q := 0) (N := 16) (z := (cpy (fun _ => -1) gc 16, nI 0)) hok (hC _ hx).2.2 fill_ok (Or.inl rfl) w (Nat.le_refl _)
        rw [← hy] at y1 y2
        obtain ⟨y3, y4⟩ := brC_col (T := T) (gc := gc) hok (hC _ hx).2.2
        rw [← hy] at y3 y4
        obtain ⟨H2, hH2⟩ : ∃ H2, H2 = jH H 14 15 0 16 y.1 y.2 := ⟨_, rfl⟩
        rw [← hH2]
        have q14 : H2 14 = .inr (6, [.int (nI 0), .ref 15, .int y.2]) := by rw [hH2]; exact mz_u_s _ _ _
        have q15 : H2 15 = aI 16 y.1 := by rw [hH2]; unfold jH; rw [mz_u_n (by decide), mz_u_s]
        have qo : ∀ z, z ≠ 14 → z ≠ 15 → H2 z = H z := fun z z1 z2 => by rw [hH2]; unfold jH; rw [mz_u_n z1, mz_u_n z2]
        have q13 := (qo 13 (by decide) (by decide)).trans k13
        have q4 := (qo 4 (by decide) (by decide)).trans k4
        have qC : Cd H2 K s := by rw [hH2]; exact Cd_u (Cd_u hC (by decide) _) (by decide) _
        have qF : Fr f H2 [4, 14, 15] := by rw [hH2]; exact Fr_u (Fr_u hF (Or.inl (by simp)) _) (Or.inl (by simp)) _
        have qB : Bd H2 b w F T L := by rw [hH2]; exact Bd_u (Bd_u kB (by omega) _) (by omega) _
        have stop : ∀ x : Nat, x ≠ 0 → gaPost f n K (x, i, s) (some (.int (nI i))) n (mz_u H2 4 (.inr (5, [.int (nI x), .int (nI i)]))) := fun x hx0 =>
          ⟨y.1, y.2, rfl, rfl, Fr_u qF (Or.inl (by simp)) _, by unfold lightC; rw [if_neg hx0]; exact mz_u_s _ _ _, by rw [mz_u_n (by decide)]; exact q14, by rw [mz_u_n (by decide)]; exact q15, Cd_u qC (by decide) _⟩
        refine mz_go [64] 20 ?_
        simp only [mz_r0, mk_lit, mk_fin, mk_cat, mk_fit, mk_nar, mk_cls, mk_ty, mk_isr, List.mem_cons, List.not_mem_nil, or_false, or_true, false_or, true_or, Nat.reduceEqDiff, Nat.reduceAdd, Nat.reduceSub, Nat.reduceLT, Nat.reduceLeDiff, ↓reduceIte, if_true, if_false, List.getElem?_cons_zero, List.getElem?_cons_succ, List.set_cons_zero, List.set_cons_succ, List.length_cons, List.length_nil, mz_s1, mz_s2, mz_cl, true_and, and_true, false_and, and_false, List.append_nil, mk_b0, mk_b1, mk_b2, mk_bn, Value.int.injEq, Option.toList_some, Option.toList_none, List.cons_append, List.nil_append, Classical.not_not, Option.some.injEq, reduceCtorEq, ne_eq, not_true_eq_false, not_false_eq_true, false_implies, true_implies, ev_41, ev_40, mz_rl d_Reproducer_punchGangs_59, mz_rl d_Reproducer_punchGangs_60, mz_rl d_Reproducer_punchGangs_62, nF_8]
        refine mz_callV (by simp only [d_Reproducer_punchGangs_64, Nat.reduceAdd]) g_8_67 rfl (fun _ _ h => h) (c_Board_canPunch G mk_P _ H2 qB hok qC hx e1.2) qB.1 rfl rfl (by decide) (Nat.le_of_ble_eq_true rfl) rfl ?_; intro v_ n_ f_ h_; obtain ⟨rfl, hn_, hf_⟩ := h_; replace hn_ := hn_.symm; replace hf_ := hf_.symm; subst hn_; subst hf_
        refine mz_go [75, 94, 101] 20 ?_
        simp only [mz_r0, mk_lit, mk_fin, mk_cat, mk_fit, mk_nar, mk_cls, mk_ty, mk_isr, List.mem_cons, List.not_mem_nil, or_false, or_true, false_or, true_or, Nat.reduceEqDiff, Nat.reduceAdd, Nat.reduceSub, Nat.reduceLT, Nat.reduceLeDiff, ↓reduceIte, if_true, if_false, List.getElem?_cons_zero, List.getElem?_cons_succ, List.set_cons_zero, List.set_cons_succ, List.length_cons, List.length_nil, mz_s1, mz_s2, mz_cl, true_and, and_true, false_and, and_false, List.append_nil, mk_b0, mk_b1, mk_b2, mk_bn, Value.int.injEq, Option.toList_some, Option.toList_none, List.cons_append, List.nil_append, Classical.not_not, Option.some.injEq, reduceCtorEq, ne_eq, not_true_eq_false, not_false_eq_true, false_implies, true_implies, ev_51, ev_40, ev_0, ev_36, ev_41, ev_79, ft_8_0, fn_8_0, ft_6_2, fn_6_2, ev_49, mz_rl d_Reproducer_punchGangs_67, mz_rl d_Reproducer_punchGangs_70, mz_rl d_Reproducer_punchGangs_72, mz_rl d_Reproducer_punchGangs_73, mz_rl d_Reproducer_punchGangs_79, mz_rl d_Reproducer_punchGangs_80, mz_rl d_Reproducer_punchGangs_83, mz_rl d_Reproducer_punchGangs_86, mz_rl d_Reproducer_punchGangs_89, mz_rl d_Reproducer_punchGangs_91, mz_rl d_Reproducer_punchGangs_92, mz_rl d_Reproducer_punchGangs_98, mz_rl d_Reproducer_punchGangs_99, j_Reproducer_punchGangs_67, j_Reproducer_punchGangs_86, nF_8, q13, q14]
        refine ⟨fun h1 => ⟨fun h2 => ?_, fun h2 => ?_⟩, fun h1 => ?_⟩
        · have hcl := y3.mp h2
          simp only [] at hR
          rw [if_pos h1, hcl, if_neg (by decide)] at hR
          have en9 : pnc y.1 (s (c i)) 16 = pgN F T (s x) w (s (c i)) := by
            funext j
            unfold pnc pgN
            by_cases hj : j < 16
            · rw [y4 hcl j hj]
            · rw [if_neg (fun z => hj z.1), if_neg (fun z => hj z.1)]
          refine mz_callV (by simp only [d_Reproducer_punchGangs_101, Nat.reduceAdd]) g_8_71 rfl (fun _ _ h => h) (c_Reproducer_punchInto G mk_P _ H2 q13 q14 q15 qC e1.2 y1) q13 rfl rfl (by decide) (Nat.le_of_ble_eq_true rfl) rfl ?_; intro v_ n_ f_ h_; obtain ⟨rfl, hn_, hf_⟩ := h_; replace hn_ := hn_.symm; replace hf_ := hf_.symm; subst hn_; subst hf_
          rw [en9]
          refine mz_go [6] 20 ?_
          simp only [mz_r0, mk_lit, mk_fin, mk_cat, mk_fit, mk_nar, mk_cls, mk_ty, mk_isr, List.mem_cons, List.not_mem_nil, or_false, or_true, false_or, true_or, Nat.reduceEqDiff, Nat.reduceAdd, Nat.reduceSub, Nat.reduceLT, Nat.reduceLeDiff, ↓reduceIte, if_true, if_false, List.getElem?_cons_zero, List.getElem?_cons_succ, List.set_cons_zero, List.set_cons_succ, List.length_cons, List.length_nil, mz_s1, mz_s2, mz_cl, true_and, and_true, false_and, and_false, List.append_nil, mk_b0, mk_b1, mk_b2, mk_bn, Value.int.injEq, Option.toList_some, Option.toList_none, List.cons_append, List.nil_append, Classical.not_not, Option.some.injEq, reduceCtorEq, ne_eq, not_true_eq_false, not_false_eq_true, false_implies, true_implies, ev_48, ev_61, mz_rl d_Reproducer_punchGangs_104, mz_rl d_Reproducer_punchGangs_107, j_Reproducer_punchGangs_107, nF_8, nI_add]
          refine ih (i + 1) _ (va_up s (c i) (pgN F T (s x) w (s (c i)))) y.1 y.2 (some x) _ (by omega) (fun x' hx' => by cases hx'; exact hx) hR (Fr_u qF (Or.inr (by omega)) _) (by rw [mz_u_n (by omega), q4, hd4]) (by rw [mz_u_n (by omega)]; exact q14) (by rw [mz_u_n (by omega)]; exact q15) (Cd_set qC e1.2 (by rw [← en9]; exact pnc_sg y1 (hC _ e1.2).2.2))
        · have hcl : clB F T (s x) 0 w 16 = true := by
            cases e9 : clB F T (s x) 0 w 16 with
            | true => rfl
            | false => exact absurd (y3.mpr e9) h2
          simp only [] at hR
          rw [if_pos h1, if_pos hcl] at hR
          subst hR
          refine mz_callV (by simp only [d_Reproducer_punchGangs_94, Nat.reduceAdd]) g_8_40 rfl (fun _ _ h => h) (c_FaultLight_stopAt G mk_P _ H2 (x := nI 2) (y := nI i) q4) q4 rfl rfl (by decide) (Nat.le_of_ble_eq_true rfl) rfl ?_; intro v_ n_ f_ h_; obtain ⟨rfl, hn_, hf_⟩ := h_; replace hn_ := hn_.symm; replace hf_ := hf_.symm; subst hn_; subst hf_
          refine mz_go [] 12 ?_
          simp only [mz_r0, mk_lit, mk_fin, mk_cat, mk_fit, mk_nar, mk_cls, mk_ty, mk_isr, List.mem_cons, List.not_mem_nil, or_false, or_true, false_or, true_or, Nat.reduceEqDiff, Nat.reduceAdd, Nat.reduceSub, Nat.reduceLT, Nat.reduceLeDiff, ↓reduceIte, if_true, if_false, List.getElem?_cons_zero, List.getElem?_cons_succ, List.set_cons_zero, List.set_cons_succ, List.length_cons, List.length_nil, mz_s1, mz_s2, mz_cl, true_and, and_true, false_and, and_false, List.append_nil, mk_b0, mk_b1, mk_b2, mk_bn, Value.int.injEq, Option.toList_some, Option.toList_none, List.cons_append, List.nil_append, Classical.not_not, Option.some.injEq, reduceCtorEq, ne_eq, not_true_eq_false, not_false_eq_true, false_implies, true_implies, ev_64, mz_rl d_Reproducer_punchGangs_97, nF_8]
          exact stop 2 (by decide)
        · simp only [] at hR
          rw [if_neg h1] at hR
          subst hR
          refine mz_callV (by simp only [d_Reproducer_punchGangs_75, Nat.reduceAdd]) g_8_40 rfl (fun _ _ h => h) (c_FaultLight_stopAt G mk_P _ H2 (x := nI 1) (y := nI i) q4) q4 rfl rfl (by decide) (Nat.le_of_ble_eq_true rfl) rfl ?_; intro v_ n_ f_ h_; obtain ⟨rfl, hn_, hf_⟩ := h_; replace hn_ := hn_.symm; replace hf_ := hf_.symm; subst hn_; subst hf_
          refine mz_go [] 12 ?_
          simp only [mz_r0, mk_lit, mk_fin, mk_cat, mk_fit, mk_nar, mk_cls, mk_ty, mk_isr, List.mem_cons, List.not_mem_nil, or_false, or_true, false_or, true_or, Nat.reduceEqDiff, Nat.reduceAdd, Nat.reduceSub, Nat.reduceLT, Nat.reduceLeDiff, ↓reduceIte, if_true, if_false, List.getElem?_cons_zero, List.getElem?_cons_succ, List.set_cons_zero, List.set_cons_succ, List.length_cons, List.length_nil, mz_s1, mz_s2, mz_cl, true_and, and_true, false_and, and_false, List.append_nil, mk_b0, mk_b1, mk_b2, mk_bn, Value.int.injEq, Option.toList_some, Option.toList_none, List.cons_append, List.nil_append, Classical.not_not, Option.some.injEq, reduceCtorEq, ne_eq, not_true_eq_false, not_false_eq_true, false_implies, true_implies, ev_64, mz_rl d_Reproducer_punchGangs_78, nF_8]
          exact stop 1 (by decide)
theorem c_Reproducer_punchGangs (G : mz_G) (n : Nat) (f : mz_H) {b w d a sz col K : Nat} {F T L : Nat → Nat} {u0 w0 cl : Int32} {g : Nat → Option Nat} {c : Nat → Nat} {gc : Nat → Int32} {s : Nat → Nat → Nat} (h13 : f 13 = .inr (8, [.ref 14])) (h14 : f 14 = .inr (6, [.int (nI 0), .ref 15, .int cl])) (h15 : f 15 = aI 16 gc) (hB : Bd f b w F T L) (hok : BdOk w F T L) (hb : 126 < b ∧ b + 3 < 172) (hd1 : f d = .inr (4, [.ref a, .int (nI sz)])) (hd2 : f a = aQ 6 200 g) (hd4 : f 4 = .inr (5, [.int u0, .int w0])) (hd : 15 < d ∧ d < 172) (ha : 15 < a ∧ a < 172) (hs : sz ≤ 200) (hP : Ps g sz c K) (hK : K ≤ 200) (hcol : col < 16) (hC : Cd f K s) :
    mz_Ct G mk_P y_Reproducer_punchGangs b_Reproducer_punchGangs 8 (some .int) (r_Reproducer_punchGangs 0 0) [.ref 13, .ref b, .ref d, .int (nI col), .ref 4] n f (gaPost f n K (gaF F T w col c sz 0 none s)) := by
  refine mk_Ct 8 false [some (.ref 13), some (.ref b), some (.ref d), some (.int (nI col)), some (.ref 4), none, none, none] (by decide) rfl (by decide) (Nat.le_of_ble_eq_true rfl) rfl ?_
  refine mz_go [6] 12 ?_
  simp only [mz_r0, mk_lit, mk_fin, mk_cat, mk_fit, mk_nar, mk_cls, mk_ty, mk_isr, List.mem_cons, List.not_mem_nil, or_false, or_true, false_or, true_or, Nat.reduceEqDiff, Nat.reduceAdd, Nat.reduceSub, Nat.reduceLT, Nat.reduceLeDiff, ↓reduceIte, if_true, if_false, List.getElem?_cons_zero, List.getElem?_cons_succ, List.set_cons_zero, List.set_cons_succ, List.length_cons, List.length_nil, mz_s1, mz_s2, mz_cl, true_and, and_true, false_and, and_false, List.append_nil, mk_b0, mk_b1, mk_b2, mk_bn, Value.int.injEq, Option.toList_some, Option.toList_none, List.cons_append, List.nil_append, Classical.not_not, Option.some.injEq, reduceCtorEq, ne_eq, not_true_eq_false, not_false_eq_true, false_implies, true_implies, ev_4, ev_46, ev_0, ev_42, mz_rl d_Reproducer_punchGangs_0, mz_rl d_Reproducer_punchGangs_1, mz_rl d_Reproducer_punchGangs_3, mz_rl d_Reproducer_punchGangs_4, nF_8]
  exact l_Reproducer_punchGangs G n f h13 hB hok hb hd1 hd2 hd4 hd ha hs hP hK hcol _ sz 0 f s gc cl none none (by omega) (fun x hx => by cases hx) rfl Fr_rf rfl h14 h15 hC
end
section
/-- which card comes first: -1 or 0 the deck's, 1 the other's -/
def ordK (s : Nat → Nat → Nat) (fr to : Nat) (c co : Nat → Nat) (sz so i j : Nat) : Int32 := if so ≤ j then -1 else if sz ≤ i then nI 1 else cmpC s fr to (c i) (co j)
theorem c_Collator_orderOf (G : mz_G) (X : mz_E) (n : Nat) (f : mz_H) {d a o b sz so fr to K i j : Nat} {g go : Nat → Option Nat} {s : Nat → Nat → Nat} {c co : Nat → Nat} (h1 : f d = .inr (4, [.ref a, .int (nI sz)])) (h2 : f a = aQ 6 200 g) (h3 : f o = .inr (4, [.ref b, .int (nI so)])) (h4 : f b = aQ 6 200 go) (hs : sz ≤ 200) (hso : so ≤ 200) (hC : Cd f K s) (hP : Ps g sz c K) (hPo : Ps go so co K) (hf : fr ≤ to) (ht : to < 16) (hi : i < 2 ^ 31) (hj : j < 2 ^ 31) :
    mz_Ct G X y_Collator_orderOf b_Collator_orderOf 6 (some .int) (r_Collator_orderOf 0 0) [.ref d, .int (nI i), .ref o, .int (nI j), .int (nI fr), .int (nI to)] n f (fun v n' f' => v = some (.int (ordK s fr to c co sz so i j)) ∧ n' = n ∧ f' = f) := by
  refine mk_Ct 3 false [some (.ref d), some (.int (nI i)), some (.ref o), some (.int (nI j)), some (.int (nI fr)), some (.int (nI to))] (by decide) rfl (by decide) (Nat.le_of_ble_eq_true rfl) rfl ?_
  refine mz_go [22] 30 ?_
  simp only [mz_r0, mk_lit, mk_fin, mk_cat, mk_fit, mk_nar, mk_cls, mk_ty, mk_isr, List.mem_cons, List.not_mem_nil, or_false, or_true, false_or, true_or, Nat.reduceEqDiff, Nat.reduceAdd, Nat.reduceSub, Nat.reduceLT, Nat.reduceLeDiff, ↓reduceIte, if_true, if_false, List.getElem?_cons_zero, List.getElem?_cons_succ, List.set_cons_zero, List.set_cons_succ, List.length_cons, List.length_nil, mz_s1, mz_s2, mz_cl, true_and, and_true, false_and, and_false, List.append_nil, mk_b0, mk_b1, mk_b2, mk_bn, Value.int.injEq, Option.toList_some, Option.toList_none, List.cons_append, List.nil_append, Classical.not_not, Option.some.injEq, reduceCtorEq, ne_eq, not_true_eq_false, not_false_eq_true, false_implies, true_implies, ev_37, ev_41, ev_79, ft_4_1, fn_4_1, ev_54, ev_0, ev_64, mz_rl d_Collator_orderOf_0, mz_rl d_Collator_orderOf_1, mz_rl d_Collator_orderOf_2, mz_rl d_Collator_orderOf_5, mz_rl d_Collator_orderOf_8, mz_rl d_Collator_orderOf_9, mz_rl d_Collator_orderOf_10, mz_rl d_Collator_orderOf_11, mz_rl d_Collator_orderOf_12, mz_rl d_Collator_orderOf_15, mz_rl d_Collator_orderOf_18, mz_rl d_Collator_orderOf_19, mz_rl d_Collator_orderOf_20, mz_rl d_Collator_orderOf_21, j_Collator_orderOf_5, j_Collator_orderOf_15, nF_3, h1, h3, nI_ltI hj (show so < 2 ^ 31 by omega), nI_ltI hi (show sz < 2 ^ 31 by omega)]
  refine ⟨fun ha => ⟨fun hb => ?_, fun hb => ?_⟩, fun ha => ?_⟩
  · have e1 := hP i hb
    have e2 := hPo j ha
    have q1 := hC _ e1.2
    have q2 := hC _ e2.2
    refine mz_callV (by simp only [d_Collator_orderOf_22, Nat.reduceAdd]) g_3_30 rfl (fun _ _ h => h) (c_Deck_at G X n f h1 h2 (show i < 200 by omega) e1.1) h1 rfl rfl (by decide) (Nat.le_of_ble_eq_true rfl) rfl ?_; intro v_ n_ f_ h_; obtain ⟨rfl, hn_, hf_⟩ := h_; replace hn_ := hn_.symm; replace hf_ := hf_.symm; subst hn_; subst hf_
    refine mz_go [27] 30 ?_
    simp only [mz_r0, mk_lit, mk_fin, mk_cat, mk_fit, mk_nar, mk_cls, mk_ty, mk_isr, List.mem_cons, List.not_mem_nil, or_false, or_true, false_or, true_or, Nat.reduceEqDiff, Nat.reduceAdd, Nat.reduceSub, Nat.reduceLT, Nat.reduceLeDiff, ↓reduceIte, if_true, if_false, List.getElem?_cons_zero, List.getElem?_cons_succ, List.set_cons_zero, List.set_cons_succ, List.length_cons, List.length_nil, mz_s1, mz_s2, mz_cl, true_and, and_true, false_and, and_false, List.append_nil, mk_b0, mk_b1, mk_b2, mk_bn, Value.int.injEq, Option.toList_some, Option.toList_none, List.cons_append, List.nil_append, Classical.not_not, Option.some.injEq, reduceCtorEq, ne_eq, not_true_eq_false, not_false_eq_true, false_implies, true_implies, ev_41, ev_37, mz_rl d_Collator_orderOf_25, mz_rl d_Collator_orderOf_26, nF_3]
    refine mz_callV (by simp only [d_Collator_orderOf_27, Nat.reduceAdd]) g_3_30 rfl (fun _ _ h => h) (c_Deck_at G X n f h3 h4 (show j < 200 by omega) e2.1) h3 rfl rfl (by decide) (Nat.le_of_ble_eq_true rfl) rfl ?_; intro v_ n_ f_ h_; obtain ⟨rfl, hn_, hf_⟩ := h_; replace hn_ := hn_.symm; replace hf_ := hf_.symm; subst hn_; subst hf_
    refine mz_go [34] 30 ?_
    simp only [mz_r0, mk_lit, mk_fin, mk_cat, mk_fit, mk_nar, mk_cls, mk_ty, mk_isr, List.mem_cons, List.not_mem_nil, or_false, or_true, false_or, true_or, Nat.reduceEqDiff, Nat.reduceAdd, Nat.reduceSub, Nat.reduceLT, Nat.reduceLeDiff, ↓reduceIte, if_true, if_false, List.getElem?_cons_zero, List.getElem?_cons_succ, List.set_cons_zero, List.set_cons_succ, List.length_cons, List.length_nil, mz_s1, mz_s2, mz_cl, true_and, and_true, false_and, and_false, List.append_nil, mk_b0, mk_b1, mk_b2, mk_bn, Value.int.injEq, Option.toList_some, Option.toList_none, List.cons_append, List.nil_append, Classical.not_not, Option.some.injEq, reduceCtorEq, ne_eq, not_true_eq_false, not_false_eq_true, false_implies, true_implies, ev_36, mz_rl d_Collator_orderOf_30, mz_rl d_Collator_orderOf_32, nF_3]
    refine mz_callV (by simp only [d_Collator_orderOf_34, Nat.reduceAdd]) g_3_42 rfl (fun _ _ h => h) (c_Card_compareOn G X n f q1.1 q2.1 q1.2.1 q2.2.1 q1.2.2 q2.2.2 hf ht) q1.1 rfl rfl (by decide) (Nat.le_of_ble_eq_true rfl) rfl ?_; intro v_ n_ f_ h_; obtain ⟨rfl, hn_, hf_⟩ := h_; replace hn_ := hn_.symm; replace hf_ := hf_.symm; subst hn_; subst hf_
    refine mz_go [] 30 ?_
    simp only [mz_r0, mk_lit, mk_fin, mk_cat, mk_fit, mk_nar, mk_cls, mk_ty, mk_isr, List.mem_cons, List.not_mem_nil, or_false, or_true, false_or, true_or, Nat.reduceEqDiff, Nat.reduceAdd, Nat.reduceSub, Nat.reduceLT, Nat.reduceLeDiff, ↓reduceIte, if_true, if_false, List.getElem?_cons_zero, List.getElem?_cons_succ, List.set_cons_zero, List.set_cons_succ, List.length_cons, List.length_nil, mz_s1, mz_s2, mz_cl, true_and, and_true, false_and, and_false, List.append_nil, mk_b0, mk_b1, mk_b2, mk_bn, Value.int.injEq, Option.toList_some, Option.toList_none, List.cons_append, List.nil_append, Classical.not_not, Option.some.injEq, reduceCtorEq, ne_eq, not_true_eq_false, not_false_eq_true, false_implies, true_implies, ev_64, mz_rl d_Collator_orderOf_37, nF_3]
    unfold ordK
    rw [if_neg (by omega), if_neg (by omega)]; rfl
  · unfold ordK
    rw [if_neg (by omega), if_pos (by omega)]
  · unfold ordK
    rw [if_pos (by omega)]
theorem ordK_le {s : Nat → Nat → Nat} {fr to sz so i j : Nat} {c co : Nat → Nat} (h : ordK s fr to c co sz so i j ≤ 0) (hk : i + j < sz + so) : i < sz := by
  unfold ordK at h
  by_cases h1 : so ≤ j
  · omega
  · rw [if_neg h1] at h
    by_cases h2 : sz ≤ i
    · rw [if_pos h2] at h; exact absurd h (by decide)
    · omega
theorem ordK_gt {s : Nat → Nat → Nat} {fr to sz so i j : Nat} {c co : Nat → Nat} (h : ¬ ordK s fr to c co sz so i j ≤ 0) : j < so := by
  unfold ordK at h
  by_cases h1 : so ≤ j
  · rw [if_pos h1] at h; exact absurd (by decide) h
  · omega
/-- the merging, step by step: how many of each deck are gone, the row so far -/
def mgT (s : Nat → Nat → Nat) (fr to : Nat) (c co : Nat → Nat) (sz so : Nat) : Nat → Nat × Nat × (Nat → Nat)
  | 0 => (0, 0, c)
  | k + 1 => if ordK s fr to c co sz so (mgT s fr to c co sz so k).1 (mgT s fr to c co sz so k).2.1 ≤ 0 then ((mgT s fr to c co sz so k).1 + 1, (mgT s fr to c co sz so k).2.1, va_up (mgT s fr to c co sz so k).2.2 k (c (mgT s fr to c co sz so k).1)) else ((mgT s fr to c co sz so k).1, (mgT s fr to c co sz so k).2.1 + 1, va_up (mgT s fr to c co sz so k).2.2 k (co (mgT s fr to c co sz so k).2.1))
theorem mgT_l {s : Nat → Nat → Nat} {fr to sz so k i j : Nat} {c co cr : Nat → Nat} (h : mgT s fr to c co sz so k = (i, j, cr)) (ho : ordK s fr to c co sz so i j ≤ 0) : mgT s fr to c co sz so (k + 1) = (i + 1, j, va_up cr k (c i)) := by
  unfold mgT; rw [h]; exact if_pos ho
theorem mgT_r {s : Nat → Nat → Nat} {fr to sz so k i j : Nat} {c co cr : Nat → Nat} (h : mgT s fr to c co sz so k = (i, j, cr)) (ho : ¬ ordK s fr to c co sz so i j ≤ 0) : mgT s fr to c co sz so (k + 1) = (i, j + 1, va_up cr k (co j)) := by
  unfold mgT; rw [h]; exact if_neg ho
theorem l_Collator_mergeOn (G : mz_G) (X : mz_E) (n : Nat) (f : mz_H) {d a o b sz so fr to K : Nat} {g go gr : Nat → Option Nat} {s : Nat → Nat → Nat} {c co : Nat → Nat} {ot : Value} {br : Int32} (post : Option Value → Nat → mz_H → Prop) (h8 : f 8 = .inr (3, [.ref 9, ot, .int br])) (h1 : f d = .inr (4, [.ref a, .int (nI sz)])) (h2 : f a = aQ 6 200 g) (h3 : f o = .inr (4, [.ref b, .int (nI so)])) (h4 : f b = aQ 6 200 go) (hs : sz + so ≤ 200) (hC : Cd f K s) (hP : Ps g sz c K) (hPo : Ps go so co K) (hf : fr ≤ to) (ht : to < 16) (hd9 : d ≠ 9 ∧ d ≠ 10) (ha9 : a ≠ 9 ∧ a ≠ 10) (ho9 : o ≠ 9 ∧ o ≠ 10) (hb9 : b ≠ 9 ∧ b ≠ 10)
    (hend : ∀ gr cr i j, mgT s fr to c co sz so (sz + so) = (i, j, cr) → Ps gr (sz + so) cr K → mz_X G X 3 false b_Collator_mergeOn 9 (some .int) (r_Collator_mergeOn 0 0) post (fun _ _ _ => False) 96 [some (.ref 8), some (.ref d), some (.ref o), some (.int (nI fr)), some (.int (nI to)), some (.int (nI (sz + so))), some (.int (nI i)), some (.int (nI j)), some (.int (nI (sz + so)))] [] 0 0 n (mz_u (mz_u f 10 (aQ 6 200 gr)) 9 (.inr (4, [.ref 10, .int (nI (sz + so))])))) :
    ∀ m k i j gr cr, k + m = sz + so → i + j = k → mgT s fr to c co sz so k = (i, j, cr) → Ps gr k cr K → mz_X G X 3 false b_Collator_mergeOn 9 (some .int) (r_Collator_mergeOn 0 0) post (fun _ _ _ => False) 33 [some (.ref 8), some (.ref d), some (.ref o), some (.int (nI fr)), some (.int (nI to)), some (.int (nI (sz + so))), some (.int (nI i)), some (.int (nI j)), some (.int (nI k))] [] 0 0 n (mz_u (mz_u f 10 (aQ 6 200 gr)) 9 (.inr (4, [.ref 10, .int (nI k)]))) := by
  intro m
  induction m with
  | zero =>
    intro k i j gr cr hk hij hT hPr
    have : k = sz + so := by omega
    subst this
    refine mz_go [33, 96] 12 ?_
    simp only [mz_r0, mk_lit, mk_fin, mk_cat, mk_fit, mk_nar, mk_cls, mk_ty, mk_isr, List.mem_cons, List.not_mem_nil, or_false, or_true, false_or, true_or, Nat.reduceEqDiff, Nat.reduceAdd, Nat.reduceSub, Nat.reduceLT, Nat.reduceLeDiff, ↓reduceIte, if_true, if_false, List.getElem?_cons_zero, List.getElem?_cons_succ, List.set_cons_zero, List.set_cons_succ, List.length_cons, List.length_nil, mz_s1, mz_s2, mz_cl, true_and, and_true, false_and, and_false, List.append_nil, mk_b0, mk_b1, mk_b2, mk_bn, Value.int.injEq, Option.toList_some, Option.toList_none, List.cons_append, List.nil_append, Classical.not_not, Option.some.injEq, reduceCtorEq, ne_eq, not_true_eq_false, not_false_eq_true, false_implies, true_implies, ev_36, ev_56, ev_41, ev_37, mz_rl d_Collator_mergeOn_33, mz_rl d_Collator_mergeOn_35, mz_rl d_Collator_mergeOn_37, mz_rl d_Collator_mergeOn_40, mz_rl d_Collator_mergeOn_41, mz_rl d_Collator_mergeOn_43, mz_rl d_Collator_mergeOn_44, mz_rl d_Collator_mergeOn_46, mz_rl d_Collator_mergeOn_47, mz_rl d_Collator_mergeOn_49, j_Collator_mergeOn_37, nF_3, nI_leI (show sz + so < 2 ^ 31 by omega) (show sz + so < 2 ^ 31 by omega), Nat.le_refl]
    exact hend gr cr i j hT hPr
  | succ m ih =>
    intro k i j gr cr hk hij hT hPr
    obtain ⟨H, hH⟩ : ∃ H, H = mz_u (mz_u f 10 (aQ 6 200 gr)) 9 (.inr (4, [.ref 10, .int (nI k)])) := ⟨_, rfl⟩
    rw [← hH]
    have ho : ∀ z, z ≠ 9 → z ≠ 10 → H z = f z := fun z z1 z2 => by rw [hH, mz_u_n z1, mz_u_n z2]
    have k8 := (ho 8 (by decide) (by decide)).trans h8
    have k1 := (ho d hd9.1 hd9.2).trans h1
    have k2 := (ho a ha9.1 ha9.2).trans h2
    have k3 := (ho o ho9.1 ho9.2).trans h3
    have k4 := (ho b hb9.1 hb9.2).trans h4
    have k9 : H 9 = .inr (4, [.ref 10, .int (nI k)]) := by rw [hH]; exact mz_u_s _ _ _
    have k10 : H 10 = aQ 6 200 gr := by rw [hH, mz_u_n (by decide), mz_u_s]
    have kC : Cd H K s := by rw [hH]; exact Cd_u (Cd_u hC (by decide) _) (by decide) _
    have step : ∀ x, x < K → mz_u (mz_u H 10 (aQ 6 200 (va_up gr k (some (172 + 2 * x))))) 9 (.inr (4, [.ref 10, .int (nI (k + 1))])) = mz_u (mz_u f 10 (aQ 6 200 (va_up gr k (some (172 + 2 * x))))) 9 (.inr (4, [.ref 10, .int (nI (k + 1))])) := fun x _ => by
      rw [hH, mz_uc _ (show (9 : Nat) ≠ 10 by decide), mz_uu, mz_uu]
    refine mz_go [49] 12 ?_
    simp only [mz_r0, mk_lit, mk_fin, mk_cat, mk_fit, mk_nar, mk_cls, mk_ty, mk_isr, List.mem_cons, List.not_mem_nil, or_false, or_true, false_or, true_or, Nat.reduceEqDiff, Nat.reduceAdd, Nat.reduceSub, Nat.reduceLT, Nat.reduceLeDiff, ↓reduceIte, if_true, if_false, List.getElem?_cons_zero, List.getElem?_cons_succ, List.set_cons_zero, List.set_cons_succ, List.length_cons, List.length_nil, mz_s1, mz_s2, mz_cl, true_and, and_true, false_and, and_false, List.append_nil, mk_b0, mk_b1, mk_b2, mk_bn, Value.int.injEq, Option.toList_some, Option.toList_none, List.cons_append, List.nil_append, Classical.not_not, Option.some.injEq, reduceCtorEq, ne_eq, not_true_eq_false, not_false_eq_true, false_implies, true_implies, ev_36, ev_56, ev_41, ev_37, ev_0, ev_80, ft_4_1, fn_4_1, ev_79, ft_3_0, fn_3_0, mz_rl d_Collator_mergeOn_33, mz_rl d_Collator_mergeOn_35, mz_rl d_Collator_mergeOn_37, mz_rl d_Collator_mergeOn_40, mz_rl d_Collator_mergeOn_41, mz_rl d_Collator_mergeOn_43, mz_rl d_Collator_mergeOn_44, mz_rl d_Collator_mergeOn_46, mz_rl d_Collator_mergeOn_47, mz_rl d_Collator_mergeOn_96, mz_rl d_Collator_mergeOn_97, mz_rl d_Collator_mergeOn_98, mz_rl d_Collator_mergeOn_101, mz_rl d_Collator_mergeOn_102, mz_rl d_Collator_mergeOn_103, mz_rl d_Collator_mergeOn_106, j_Collator_mergeOn_37, nF_3, nI_leI (show sz + so < 2 ^ 31 by omega) (show k < 2 ^ 31 by omega), show ¬ sz + so ≤ k by omega]
    refine mz_callS (by simp only [d_Collator_mergeOn_49, Nat.reduceAdd]) g_3_26 rfl (fun _ _ h => h) (c_Collator_orderOf G X n H k1 k2 k3 k4 (by omega) (by omega) kC hP hPo hf ht (show i < 2 ^ 31 by omega) (show j < 2 ^ 31 by omega)) (by decide) (Nat.le_of_ble_eq_true rfl) rfl ?_; intro v_ n_ f_ h_; obtain ⟨rfl, hn_, hf_⟩ := h_; replace hn_ := hn_.symm; replace hf_ := hf_.symm; subst hn_; subst hf_
    refine mz_go [62, 81] 12 ?_
    simp only [mz_r0, mk_lit, mk_fin, mk_cat, mk_fit, mk_nar, mk_cls, mk_ty, mk_isr, List.mem_cons, List.not_mem_nil, or_false, or_true, false_or, true_or, Nat.reduceEqDiff, Nat.reduceAdd, Nat.reduceSub, Nat.reduceLT, Nat.reduceLeDiff, ↓reduceIte, if_true, if_false, List.getElem?_cons_zero, List.getElem?_cons_succ, List.set_cons_zero, List.set_cons_succ, List.length_cons, List.length_nil, mz_s1, mz_s2, mz_cl, true_and, and_true, false_and, and_false, List.append_nil, mk_b0, mk_b1, mk_b2, mk_bn, Value.int.injEq, Option.toList_some, Option.toList_none, List.cons_append, List.nil_append, Classical.not_not, Option.some.injEq, reduceCtorEq, ne_eq, not_true_eq_false, not_false_eq_true, false_implies, true_implies, ev_57, ev_41, ev_79, ft_3_0, fn_3_0, ev_36, mz_rl d_Collator_mergeOn_52, mz_rl d_Collator_mergeOn_55, mz_rl d_Collator_mergeOn_56, mz_rl d_Collator_mergeOn_59, mz_rl d_Collator_mergeOn_60, mz_rl d_Collator_mergeOn_74, mz_rl d_Collator_mergeOn_75, mz_rl d_Collator_mergeOn_78, mz_rl d_Collator_mergeOn_79, j_Collator_mergeOn_52, nF_3, k8]
    refine ⟨fun h => ?_, fun h => ?_⟩
    · have hno : ¬ ordK s fr to c co sz so i j ≤ 0 := fun z => by rw [mk_lt] at h; rw [mk_le] at z; omega
      have hj := ordK_gt hno
      have e := hPo j hj
      refine mz_callV (by simp only [d_Collator_mergeOn_81, Nat.reduceAdd]) g_3_30 rfl (fun _ _ h => h) (c_Deck_at G X n H k3 k4 (show j < 200 by omega) e.1) k3 rfl rfl (by decide) (Nat.le_of_ble_eq_true rfl) rfl ?_; intro v_ n_ f_ h_; obtain ⟨rfl, hn_, hf_⟩ := h_; replace hn_ := hn_.symm; replace hf_ := hf_.symm; subst hn_; subst hf_
      refine mz_callV (by simp only [d_Collator_mergeOn_84, Nat.reduceAdd]) g_3_34 rfl (fun _ _ h => h) (c_Deck_add G X n H k9 k10 (kC _ e.2).1 (show k < 200 by omega)) k9 rfl rfl (by decide) (Nat.le_of_ble_eq_true rfl) rfl ?_; intro v_ n_ f_ h_; obtain ⟨rfl, hn_, hf_⟩ := h_; replace hn_ := hn_.symm; replace hf_ := hf_.symm; subst hn_; subst hf_
      rw [step _ e.2]
      refine mz_go [33] 12 ?_
      simp only [mz_r0, mk_lit, mk_fin, mk_cat, mk_fit, mk_nar, mk_cls, mk_ty, mk_isr, List.mem_cons, List.not_mem_nil, or_false, or_true, false_or, true_or, Nat.reduceEqDiff, Nat.reduceAdd, Nat.reduceSub, Nat.reduceLT, Nat.reduceLeDiff, ↓reduceIte, if_true, if_false, List.getElem?_cons_zero, List.getElem?_cons_succ, List.set_cons_zero, List.set_cons_succ, List.length_cons, List.length_nil, mz_s1, mz_s2, mz_cl, true_and, and_true, false_and, and_false, List.append_nil, mk_b0, mk_b1, mk_b2, mk_bn, Value.int.injEq, Option.toList_some, Option.toList_none, List.cons_append, List.nil_append, Classical.not_not, Option.some.injEq, reduceCtorEq, ne_eq, not_true_eq_false, not_false_eq_true, false_implies, true_implies, ev_48, ev_61, mz_rl d_Collator_mergeOn_87, mz_rl d_Collator_mergeOn_90, mz_rl d_Collator_mergeOn_93, j_Collator_mergeOn_93, nF_3, nI_add]
      exact ih (k + 1) i (j + 1) _ _ (by omega) (by omega) (mgT_r hT hno) (Ps_add hPr e.2)
    · have hyes : ordK s fr to c co sz so i j ≤ 0 := by rw [mk_le]; rw [mk_lt] at h; omega
      have hi := ordK_le hyes (by omega)
      have e := hP i hi
      refine mz_callV (by simp only [d_Collator_mergeOn_62, Nat.reduceAdd]) g_3_30 rfl (fun _ _ h => h) (c_Deck_at G X n H k1 k2 (show i < 200 by omega) e.1) k1 rfl rfl (by decide) (Nat.le_of_ble_eq_true rfl) rfl ?_; intro v_ n_ f_ h_; obtain ⟨rfl, hn_, hf_⟩ := h_; replace hn_ := hn_.symm; replace hf_ := hf_.symm; subst hn_; subst hf_
      refine mz_callV (by simp only [d_Collator_mergeOn_65, Nat.reduceAdd]) g_3_34 rfl (fun _ _ h => h) (c_Deck_add G X n H k9 k10 (kC _ e.2).1 (show k < 200 by omega)) k9 rfl rfl (by decide) (Nat.le_of_ble_eq_true rfl) rfl ?_; intro v_ n_ f_ h_; obtain ⟨rfl, hn_, hf_⟩ := h_; replace hn_ := hn_.symm; replace hf_ := hf_.symm; subst hn_; subst hf_
      rw [step _ e.2]
      refine mz_go [33] 12 ?_
      simp only [mz_r0, mk_lit, mk_fin, mk_cat, mk_fit, mk_nar, mk_cls, mk_ty, mk_isr, List.mem_cons, List.not_mem_nil, or_false, or_true, false_or, true_or, Nat.reduceEqDiff, Nat.reduceAdd, Nat.reduceSub, Nat.reduceLT, Nat.reduceLeDiff, ↓reduceIte, if_true, if_false, List.getElem?_cons_zero, List.getElem?_cons_succ, List.set_cons_zero, List.set_cons_succ, List.length_cons, List.length_nil, mz_s1, mz_s2, mz_cl, true_and, and_true, false_and, and_false, List.append_nil, mk_b0, mk_b1, mk_b2, mk_bn, Value.int.injEq, Option.toList_some, Option.toList_none, List.cons_append, List.nil_append, Classical.not_not, Option.some.injEq, reduceCtorEq, ne_eq, not_true_eq_false, not_false_eq_true, false_implies, true_implies, ev_48, ev_61, mz_rl d_Collator_mergeOn_68, mz_rl d_Collator_mergeOn_71, mz_rl d_Collator_mergeOn_90, mz_rl d_Collator_mergeOn_93, j_Collator_mergeOn_71, j_Collator_mergeOn_93, nF_3, nI_add]
      exact ih (k + 1) (i + 1) j _ _ (by omega) (by omega) (mgT_l hT hyes) (Ps_add hPr e.2)
def mgPost (f : mz_H) (n d a o b K sz : Nat) (ot : Value) (br' : Int32) (cr : Nat → Nat) (v : Option Value) (n' : Nat) (F' : mz_H) : Prop := ∃ gr g10, v = some (.int (nI sz)) ∧ n' = n ∧ Fr f F' [8, 9, 10, d, a, o] ∧ F' 8 = .inr (3, [.ref 9, ot, .int br']) ∧ F' 9 = .inr (4, [.ref 10, .int (nI 0)]) ∧ F' 10 = aQ 6 200 g10 ∧ F' d = .inr (4, [.ref a, .int (nI sz)]) ∧ F' a = aQ 6 200 gr ∧ F' o = .inr (4, [.ref b, .int (nI 0)]) ∧ Ps gr sz cr K ∧ (∀ z, 172 ≤ z → F' z = f z)
theorem c_Collator_mergeOn (G : mz_G) (X : mz_E) (n : Nat) (f : mz_H) {d a o b sz so fr to K : Nat} {g go gr : Nat → Option Nat} {s : Nat → Nat → Nat} {c co : Nat → Nat} {ot : Value} {br : Int32} (h8 : f 8 = .inr (3, [.ref 9, ot, .int br])) (h9 : f 9 = .inr (4, [.ref 10, .int (nI 0)])) (h10 : f 10 = aQ 6 200 gr) (h1 : f d = .inr (4, [.ref a, .int (nI sz)])) (h2 : f a = aQ 6 200 g) (h3 : f o = .inr (4, [.ref b, .int (nI so)])) (h4 : f b = aQ 6 200 go) (hs : sz + so ≤ 200) (hC : Cd f K s) (hP : Ps g sz c K) (hPo : Ps go so co K) (hf : fr ≤ to) (ht : to < 16) (hdr : 12 < d ∧ d < 172) (har : 12 < a ∧ a < 172) (hor : 12 < o ∧ o < 172) (hbr : 12 < b ∧ b < 172) (hdo : d ≠ o) (hab : a ≠ b) :
    mz_Ct G X y_Collator_mergeOn b_Collator_mergeOn 9 (some .int) (r_Collator_mergeOn 0 0) [.ref 8, .ref d, .ref o, .int (nI fr), .int (nI to)] n f (mgPost f n d a o b K (sz + so) ot (br + nI so) (mgT s fr to c co sz so (sz + so)).2.2) := by
  have hda : d ≠ a := by rintro rfl; rw [h1] at h2; cases h2
  have hoa : o ≠ a := by rintro rfl; rw [h3] at h2; cases h2
  refine mk_Ct 3 false [some (.ref 8), some (.ref d), some (.ref o), some (.int (nI fr)), some (.int (nI to)), none, none, none, none] (by decide) rfl (by decide) (Nat.le_of_ble_eq_true rfl) rfl ?_
  refine mz_go [33] 30 ?_
  simp only [mz_r0, mk_lit, mk_fin, mk_cat, mk_fit, mk_nar, mk_cls, mk_ty, mk_isr, List.mem_cons, List.not_mem_nil, or_false, or_true, false_or, true_or, Nat.reduceEqDiff, Nat.reduceAdd, Nat.reduceSub, Nat.reduceLT, Nat.reduceLeDiff, ↓reduceIte, if_true, if_false, List.getElem?_cons_zero, List.getElem?_cons_succ, List.set_cons_zero, List.set_cons_succ, List.length_cons, List.length_nil, mz_s1, mz_s2, mz_cl, true_and, and_true, false_and, and_false, List.append_nil, mk_b0, mk_b1, mk_b2, mk_bn, Value.int.injEq, Option.toList_some, Option.toList_none, List.cons_append, List.nil_append, Classical.not_not, Option.some.injEq, reduceCtorEq, ne_eq, not_true_eq_false, not_false_eq_true, false_implies, true_implies, ev_41, ev_79, ft_4_1, fn_4_1, ev_5, ev_42, ev_0, ev_32, ft_3_2, fn_3_2, ev_80, mz_rl d_Collator_mergeOn_0, mz_rl d_Collator_mergeOn_1, mz_rl d_Collator_mergeOn_4, mz_rl d_Collator_mergeOn_5, mz_rl d_Collator_mergeOn_8, mz_rl d_Collator_mergeOn_9, mz_rl d_Collator_mergeOn_11, mz_rl d_Collator_mergeOn_12, mz_rl d_Collator_mergeOn_14, mz_rl d_Collator_mergeOn_15, mz_rl d_Collator_mergeOn_17, mz_rl d_Collator_mergeOn_18, mz_rl d_Collator_mergeOn_19, mz_rl d_Collator_mergeOn_22, mz_rl d_Collator_mergeOn_23, mz_rl d_Collator_mergeOn_26, mz_rl d_Collator_mergeOn_27, mz_rl d_Collator_mergeOn_30, mz_rl d_Collator_mergeOn_31, nF_3, h1, h3, h8, nI_add]
  obtain ⟨f1, hf1⟩ : ∃ f1, f1 = mz_u f 8 (.inr (3, [.ref 9, ot, .int (br + nI so)])) := ⟨_, rfl⟩
  rw [← hf1]
  have ho : ∀ z, z ≠ 8 → f1 z = f z := fun z z1 => by rw [hf1, mz_u_n z1]
  have k8 : f1 8 = .inr (3, [.ref 9, ot, .int (br + nI so)]) := by rw [hf1]; exact mz_u_s _ _ _
  have k9 := (ho 9 (by decide)).trans h9
  have k10 := (ho 10 (by decide)).trans h10
  have k1 := (ho d (by omega)).trans h1
  have k2 := (ho a (by omega)).trans h2
  have k3 := (ho o (by omega)).trans h3
  have k4 := (ho b (by omega)).trans h4
  have kC : Cd f1 K s := by rw [hf1]; exact Cd_u hC (by decide) _
  have hid : mz_u (mz_u f1 10 (aQ 6 200 gr)) 9 (.inr (4, [.ref 10, .int (nI 0)])) = f1 := by rw [mz_ui k10, mz_ui k9]
  have := l_Collator_mergeOn G X n f1 (gr := gr) (mgPost f n d a o b K (sz + so) ot (br + nI so) (mgT s fr to c co sz so (sz + so)).2.2) k8 k1 k2 k3 k4 hs kC hP hPo hf ht (by omega) (by omega) (by omega) (by omega) ?_ (sz + so) 0 0 0 gr c (by omega) (by omega) rfl (fun j hj => absurd hj (by omega))
  · rw [hid] at this
    exact this
  · intro g3 c3 i j hT3 hP3
    rw [hT3]
    obtain ⟨H, hH⟩ : ∃ H, H = mz_u (mz_u f1 10 (aQ 6 200 g3)) 9 (.inr (4, [.ref 10, .int (nI (sz + so))])) := ⟨_, rfl⟩
    rw [← hH]
    have hq : ∀ z, z ≠ 9 → z ≠ 10 → H z = f1 z := fun z z1 z2 => by rw [hH, mz_u_n z1, mz_u_n z2]
    have q8 := (hq 8 (by decide) (by decide)).trans k8
    have q1 := (hq d (by omega) (by omega)).trans k1
    have q2 := (hq a (by omega) (by omega)).trans k2
    have q3 := (hq o (by omega) (by omega)).trans k3
    have q9 : H 9 = .inr (4, [.ref 10, .int (nI (sz + so))]) := by rw [hH]; exact mz_u_s _ _ _
    have q10 : H 10 = aQ 6 200 g3 := by rw [hH, mz_u_n (by decide), mz_u_s]
    have qC : Cd H K s := by rw [hH]; exact Cd_u (Cd_u kC (by decide) _) (by decide) _
    refine mz_go [106] 30 ?_
    simp only [mz_r0, mk_lit, mk_fin, mk_cat, mk_fit, mk_nar, mk_cls, mk_ty, mk_isr, List.mem_cons, List.not_mem_nil, or_false, or_true, false_or, true_or, Nat.reduceEqDiff, Nat.reduceAdd, Nat.reduceSub, Nat.reduceLT, Nat.reduceLeDiff, ↓reduceIte, if_true, if_false, List.getElem?_cons_zero, List.getElem?_cons_succ, List.set_cons_zero, List.set_cons_succ, List.length_cons, List.length_nil, mz_s1, mz_s2, mz_cl, true_and, and_true, false_and, and_false, List.append_nil, mk_b0, mk_b1, mk_b2, mk_bn, Value.int.injEq, Option.toList_some, Option.toList_none, List.cons_append, List.nil_append, Classical.not_not, Option.some.injEq, reduceCtorEq, ne_eq, not_true_eq_false, not_false_eq_true, false_implies, true_implies, ev_36, ev_56, ev_41, ev_37, ev_0, ev_80, ft_4_1, fn_4_1, ev_79, ft_3_0, fn_3_0, mz_rl d_Collator_mergeOn_33, mz_rl d_Collator_mergeOn_35, mz_rl d_Collator_mergeOn_37, mz_rl d_Collator_mergeOn_40, mz_rl d_Collator_mergeOn_41, mz_rl d_Collator_mergeOn_43, mz_rl d_Collator_mergeOn_44, mz_rl d_Collator_mergeOn_46, mz_rl d_Collator_mergeOn_47, mz_rl d_Collator_mergeOn_49, mz_rl d_Collator_mergeOn_96, mz_rl d_Collator_mergeOn_97, mz_rl d_Collator_mergeOn_98, mz_rl d_Collator_mergeOn_101, mz_rl d_Collator_mergeOn_102, mz_rl d_Collator_mergeOn_103, j_Collator_mergeOn_37, nF_3, q3, q8, mz_u_n (show 8 ≠ o by omega)]
    obtain ⟨H2, hH2⟩ : ∃ H2, H2 = mz_u H o (.inr (4, [.ref b, .int (nI 0)])) := ⟨_, rfl⟩
    rw [← hH2]
    have ho2 : ∀ z, z ≠ o → H2 z = H z := fun z z1 => by rw [hH2, mz_u_n z1]
    have s1 := (ho2 d hdo).trans q1
    have s2 := (ho2 a (Ne.symm hoa)).trans q2
    have s9 := (ho2 9 (by omega)).trans q9
    have s10 := (ho2 10 (by omega)).trans q10
    have sC : Cd H2 K s := by rw [hH2]; exact Cd_u qC (by omega) _
    refine mz_callV (by simp only [d_Collator_mergeOn_106, Nat.reduceAdd]) g_3_38 rfl (fun _ _ h => h) (c_Deck_takeAllOf G X n H2 s1 s2 s9 s10 (by omega) (by omega) hs (fun z hz => ⟨_, _, (hP3 z hz).1, (sC _ (hP3 z hz).2).1⟩)) s1 rfl rfl (by decide) (Nat.le_of_ble_eq_true rfl) rfl ?_; intro v_ n_ f_ h_; obtain ⟨rfl, hn_, hf_⟩ := h_; replace hn_ := hn_.symm; replace hf_ := hf_.symm; subst hn_; subst hf_
    refine mz_go [] 30 ?_
    simp only [mz_r0, mk_lit, mk_fin, mk_cat, mk_fit, mk_nar, mk_cls, mk_ty, mk_isr, List.mem_cons, List.not_mem_nil, or_false, or_true, false_or, true_or, Nat.reduceEqDiff, Nat.reduceAdd, Nat.reduceSub, Nat.reduceLT, Nat.reduceLeDiff, ↓reduceIte, if_true, if_false, List.getElem?_cons_zero, List.getElem?_cons_succ, List.set_cons_zero, List.set_cons_succ, List.length_cons, List.length_nil, mz_s1, mz_s2, mz_cl, true_and, and_true, false_and, and_false, List.append_nil, mk_b0, mk_b1, mk_b2, mk_bn, Value.int.injEq, Option.toList_some, Option.toList_none, List.cons_append, List.nil_append, Classical.not_not, Option.some.injEq, reduceCtorEq, ne_eq, not_true_eq_false, not_false_eq_true, false_implies, true_implies, ev_36, ev_64, mz_rl d_Collator_mergeOn_109, mz_rl d_Collator_mergeOn_111, nF_3]
    have fin : ∀ z, z ≠ 9 → z ≠ d → z ≠ a → mz_u (mz_u (mz_u H2 a (aQ 6 200 (cpy g3 g (sz + so)))) d (.inr (4, [.ref a, .int (nI (sz + so))]))) 9 (.inr (4, [.ref 10, .int (nI 0)])) z = H2 z := fun z z1 z2 z3 => by rw [mz_u_n z1, mz_u_n z2, mz_u_n z3]
    refine ⟨cpy g3 g (sz + so), g3, rfl, rfl, fun z hz hS => ?_, ?_, mz_u_s _ _ _, ?_, ?_, ?_, ?_, ?_, ?_⟩
    · simp only [List.mem_cons, List.not_mem_nil, or_false, not_or] at hS
      rw [fin z hS.2.1 hS.2.2.2.1 hS.2.2.2.2.1, ho2 z hS.2.2.2.2.2, hq z hS.2.1 hS.2.2.1, ho z hS.1]
    · rw [fin 8 (by decide) (by omega) (by omega), ho2 8 (by omega)]; exact q8
    · rw [fin 10 (by decide) (by omega) (by omega)]; exact s10
    · rw [mz_u_n (by omega), mz_u_s]
    · rw [mz_u_n (by omega), mz_u_n (Ne.symm hda), mz_u_s]
    · rw [fin o (by omega) (Ne.symm hdo) hoa, hH2]; exact mz_u_s _ _ _
    · intro z hz
      rw [cpy_lt hz]; exact hP3 z hz
    · intro z hz
      rw [fin z (by omega) (by omega) (by omega), ho2 z (by omega), hq z (by omega) (by omega), ho z (by omega)]
end
section
/-- a deck of the cells: its array beside it, its first places cards -/
def Dk (H : mz_H) (D A r K : Nat) (c : Nat → Nat) : Prop := ∃ g, H D = .inr (4, [.ref A, .int (nI r)]) ∧ H A = aQ 6 200 g ∧ Ps g r c K
/-- three rows of cards: how many, and which -/
abbrev mtM : Type := (Nat × (Nat → Nat)) × (Nat × (Nat → Nat)) × (Nat × (Nat → Nat))
def mtP (q : Nat × (Nat → Nat)) (x : Nat) : Nat × (Nat → Nat) := (q.1 + 1, va_up q.2 q.1 x)
/-- the matching, from i and j on, behind the latest card lt that found one like it: the deck's rest, the other's, the third deck -/
def mtF (s : Nat → Nat → Nat) (fr to : Nat) (c co : Nat → Nat) (sz so : Nat) : Nat → Nat → Nat → Option Nat → mtM → mtM
  | 0, _, _, _, M => M
  | m + 1, i, j, lt, M => if (0 : Int32) < ordK s fr to c co sz so i j then (match lt with
      | none => mtF s fr to c co sz so m i (j + 1) none (M.1, mtP M.2.1 (co j), M.2.2)
      | some x => if cmpC s fr to (co j) x = 0 then mtF s fr to c co sz so m i (j + 1) (some x) (M.1, M.2.1, mtP M.2.2 (co j)) else mtF s fr to c co sz so m i (j + 1) (some x) (M.1, mtP M.2.1 (co j), M.2.2))
    else if ordK s fr to c co sz so i j = 0 then mtF s fr to c co sz so m (i + 1) j (some (c i)) (M.1, M.2.1, mtP M.2.2 (c i)) else mtF s fr to c co sz so m (i + 1) j lt (mtP M.1 (c i), M.2.1, M.2.2)
def mtI (f H : mz_H) (e ea si K k : Nat) (M : mtM) : Prop := (∀ z, z ≠ 9 → z ≠ 10 → z ≠ 11 → z ≠ 12 → z ≠ e → z ≠ ea → H z = f z) ∧ M.1.1 + M.2.1.1 + M.2.2.1 = si + k ∧ Dk H 9 10 M.1.1 K M.1.2 ∧ Dk H 11 12 M.2.1.1 K M.2.1.2 ∧ Dk H e ea M.2.2.1 K M.2.2.2
theorem Dk_other {H : mz_H} {D A r K D' A' : Nat} {c : Nat → Nat} (h : Dk H D A r K c) (h1 : D ≠ D') (h2 : D ≠ A') (h3 : A ≠ D') (h4 : A ≠ A') (x y : mz_C) : Dk (mz_u (mz_u H A' y) D' x) D A r K c := by
  obtain ⟨g, a1, a2, a3⟩ := h
  exact ⟨g, by rw [mz_u_n h1, mz_u_n h2]; exact a1, by rw [mz_u_n h3, mz_u_n h4]; exact a2, a3⟩
/-- a card more in a deck -/
theorem Dk_add (G : mz_G) (X : mz_E) (n : Nat) (H : mz_H) {D A r K x : Nat} {c : Nat → Nat} (h : Dk H D A r K c) (hDA : D ≠ A) {fs : List Value} (hx : x < K) (hc : H (172 + 2 * x) = .inr (2, fs)) (hr : r < 200) : mz_Ct G X y_Deck_add b_Deck_add 2 none (r_Deck_add 0 0) [.ref D, .ref (172 + 2 * x)] n H (fun v n' H' => v = none ∧ n' = n ∧ ∃ y z, H' = mz_u (mz_u H A y) D z ∧ Dk H' D A (r + 1) K (va_up c r x)) := by
  obtain ⟨g, a1, a2, a3⟩ := h
  intro ad sz hwf hok
  refine mz_Mono (c_Deck_add G X n H a1 a2 hc hr ad sz hwf hok) ?_
  rintro v n' f' ⟨rfl, rfl, rfl⟩
  exact ⟨rfl, rfl, _, _, rfl, _, mz_u_s _ _ _, by rw [mz_u_n (Ne.symm hDA), mz_u_s], Ps_add a3 hx⟩
theorem l_Collator_matchOn (G : mz_G) (X : mz_E) (n : Nat) (f : mz_H) {d a o b e ea sz so si fr to K : Nat} {g go : Nat → Option Nat} {s : Nat → Nat → Nat} {c co : Nat → Nat} {br : Int32} (post : Option Value → Nat → mz_H → Prop) (h8 : f 8 = .inr (3, [.ref 9, .ref 11, .int br])) (h1 : f d = .inr (4, [.ref a, .int (nI sz)])) (h2 : f a = aQ 6 200 g) (h3 : f o = .inr (4, [.ref b, .int (nI so)])) (h4 : f b = aQ 6 200 go) (hs : sz + so + si ≤ 200) (hC : Cd f K s) (hP : Ps g sz c K) (hPo : Ps go so co K) (hf : fr ≤ to) (ht : to < 16) (hdr : 12 < d ∧ d < 172) (har : 12 < a ∧ a < 172) (hor : 12 < o ∧ o < 172) (hbr : 12 < b ∧ b < 172) (her : 12 < e ∧ e < 172) (hear : 12 < ea ∧ ea < 172) (hde : d ≠ e ∧ d ≠ ea) (hae : a ≠ e ∧ a ≠ ea) (hoe : o ≠ e ∧ o ≠ ea) (hbe : b ≠ e ∧ b ≠ ea) (hee : e ≠ ea) (R : mtM)
    (hend : ∀ H i j w10 w12 w13 w14, mtI f H e ea si K (sz + so) R → mz_X G X 3 false b_Collator_matchOn 15 (some .int) (r_Collator_matchOn 0 0) post (fun _ _ _ => False) 171 [some (.ref 8), some (.ref d), some (.ref o), some (.ref e), some (.int (nI fr)), some (.int (nI to)), some (.int (nI (sz + so))), some (.int (nI si)), some (.int (nI i)), some (.int (nI j)), w10, some (.int (nI (sz + so))), w12, w13, w14] [] 0 0 n H) :
    ∀ m k i j H M lt w12 w13 w14, k + m = sz + so → i + j = k → (∀ x, lt = some x → x < K) → mtF s fr to c co sz so m i j lt M = R → (∀ v, w12 = some v → v.category = 1) → (∀ v, w13 = some v → v.category = 1) → mtI f H e ea si K k M → mz_X G X 3 false b_Collator_matchOn 15 (some .int) (r_Collator_matchOn 0 0) post (fun _ _ _ => False) 29 [some (.ref 8), some (.ref d), some (.ref o), some (.ref e), some (.int (nI fr)), some (.int (nI to)), some (.int (nI (sz + so))), some (.int (nI si)), some (.int (nI i)), some (.int (nI j)), some (msV lt), some (.int (nI k)), w12, w13, w14] [] 0 0 n H := by
  intro m
  induction m with
  | zero =>
    intro k i j H M lt w12 w13 w14 hk hij hlt hR h12 h13 hI
    have hR' : M = R := hR
    subst hR'
    have : k = sz + so := by omega
    subst this
    refine mz_go [29, 171] 12 ?_
    simp only [mz_r0, mk_lit, mk_fin, mk_cat, mk_fit, mk_nar, mk_cls, mk_ty, mk_isr, List.mem_cons, List.not_mem_nil, or_false, or_true, false_or, true_or, Nat.reduceEqDiff, Nat.reduceAdd, Nat.reduceSub, Nat.reduceLT, Nat.reduceLeDiff, ↓reduceIte, if_true, if_false, List.getElem?_cons_zero, List.getElem?_cons_succ, List.set_cons_zero, List.set_cons_succ, List.length_cons, List.length_nil, mz_s1, mz_s2, mz_cl, true_and, and_true, false_and, and_false, List.append_nil, mk_b0, mk_b1, mk_b2, mk_bn, Value.int.injEq, Option.toList_some, Option.toList_none, List.cons_append, List.nil_append, Classical.not_not, Option.some.injEq, reduceCtorEq, ne_eq, not_true_eq_false, not_false_eq_true, false_implies, true_implies, ev_36, ev_56, ev_41, mz_rl d_Collator_matchOn_29, mz_rl d_Collator_matchOn_31, mz_rl d_Collator_matchOn_33, mz_rl d_Collator_matchOn_36, mz_rl d_Collator_matchOn_37, mz_rl d_Collator_matchOn_39, mz_rl d_Collator_matchOn_40, mz_rl d_Collator_matchOn_42, mz_rl d_Collator_matchOn_44, mz_rl d_Collator_matchOn_46, j_Collator_matchOn_33, nF_3, nI_leI (show sz + so < 2 ^ 31 by omega) (show sz + so < 2 ^ 31 by omega), Nat.le_refl]
    exact hend H i j _ w12 w13 w14 hI
  | succ m ih =>
    intro k i j H M lt w12 w13 w14 hk hij hlt hR h12 h13 hI
    unfold mtF at hR
    obtain ⟨hfr, hsum, hD1, hD2, hD3⟩ := hI
    have k8 := (hfr 8 (by decide) (by decide) (by decide) (by decide) (by omega) (by omega)).trans h8
    have k1 := (hfr d (by omega) (by omega) (by omega) (by omega) hde.1 hde.2).trans h1
    have k2 := (hfr a (by omega) (by omega) (by omega) (by omega) hae.1 hae.2).trans h2
    have k3 := (hfr o (by omega) (by omega) (by omega) (by omega) hoe.1 hoe.2).trans h3
    have k4 := (hfr b (by omega) (by omega) (by omega) (by omega) hbe.1 hbe.2).trans h4
    have kC : Cd H K s := fun x hx => by
      rw [hfr (172 + 2 * x) (by omega) (by omega) (by omega) (by omega) (by omega) (by omega), hfr (173 + 2 * x) (by omega) (by omega) (by omega) (by omega) (by omega) (by omega)]
      exact hC x hx
    have c10 : (msV lt).category = 1 := by cases lt <;> rfl
    obtain ⟨O, hO⟩ : ∃ O, O = ordK s fr to c co sz so i j := ⟨_, rfl⟩
    -- a card of the deck goes to D
    have addD : ∀ (lt : Option Nat) (D A r : Nat) (c' : Nat → Nat) (M' : mtM), (∀ x, lt = some x → x < K) → mtF s fr to c co sz so m (i + 1) j lt M' = R → i < sz → D ≠ A → Dk H D A r K c' → r < 200 → (∀ y z, Dk (mz_u (mz_u H A y) D z) D A (r + 1) K (va_up c' r (c i)) → mtI f (mz_u (mz_u H A y) D z) e ea si K (k + 1) M') → mz_X G X 3 false b_Collator_matchOn 15 (some .int) (r_Collator_matchOn 0 0) post (fun _ _ _ => False) 89 [some (.ref 8), some (.ref d), some (.ref o), some (.ref e), some (.int (nI fr)), some (.int (nI to)), some (.int (nI (sz + so))), some (.int (nI si)), some (.int (nI i)), some (.int (nI j)), some (msV lt), some (.int (nI k)), some (.int O), some (.ref D), w14] [] 0 0 n H := by
      intro lt D A r c' M' hlt hR' hi hDA hDk hr hnew
      have c10 : (msV lt).category = 1 := by cases lt <;> rfl
      have e1 := hP i hi
      refine mz_go [94] 12 ?_
      simp only [mz_r0, mk_lit, mk_fin, mk_cat, mk_fit, mk_nar, mk_cls, mk_ty, mk_isr, List.mem_cons, List.not_mem_nil, or_false, or_true, false_or, true_or, Nat.reduceEqDiff, Nat.reduceAdd, Nat.reduceSub, Nat.reduceLT, Nat.reduceLeDiff, ↓reduceIte, if_true, if_false, List.getElem?_cons_zero, List.getElem?_cons_succ, List.set_cons_zero, List.set_cons_succ, List.length_cons, List.length_nil, mz_s1, mz_s2, mz_cl, true_and, and_true, false_and, and_false, List.append_nil, mk_b0, mk_b1, mk_b2, mk_bn, Value.int.injEq, Option.toList_some, Option.toList_none, List.cons_append, List.nil_append, Classical.not_not, Option.some.injEq, reduceCtorEq, ne_eq, not_true_eq_false, not_false_eq_true, false_implies, true_implies, ev_40, ev_41, ev_36, mz_rl d_Collator_matchOn_89, mz_rl d_Collator_matchOn_91, mz_rl d_Collator_matchOn_92, nF_3]
      refine mz_callV (by simp only [d_Collator_matchOn_94, Nat.reduceAdd]) g_3_30 rfl (fun _ _ h => h) (c_Deck_at G X n H k1 k2 (show i < 200 by omega) e1.1) k1 rfl rfl (by decide) (Nat.le_of_ble_eq_true rfl) rfl ?_; intro v_ n_ f_ h_; obtain ⟨rfl, hn_, hf_⟩ := h_; replace hn_ := hn_.symm; replace hf_ := hf_.symm; subst hn_; subst hf_
      have hDk' := id hDk
      obtain ⟨_, hDo, _, _⟩ := hDk'
      refine mz_callV (by simp only [d_Collator_matchOn_97, Nat.reduceAdd]) g_3_34 rfl (fun _ _ h => h) (Dk_add G X n H hDk hDA e1.2 (kC _ e1.2).1 hr) hDo rfl rfl (by decide) (Nat.le_of_ble_eq_true rfl) rfl ?_; rintro v_ n_ f_ ⟨rfl, rfl, y, z, rfl, hnd⟩
      refine mz_go [29] 12 ?_
      simp only [mz_r0, mk_lit, mk_fin, mk_cat, mk_fit, mk_nar, mk_cls, mk_ty, mk_isr, List.mem_cons, List.not_mem_nil, or_false, or_true, false_or, true_or, Nat.reduceEqDiff, Nat.reduceAdd, Nat.reduceSub, Nat.reduceLT, Nat.reduceLeDiff, ↓reduceIte, if_true, if_false, List.getElem?_cons_zero, List.getElem?_cons_succ, List.set_cons_zero, List.set_cons_succ, List.length_cons, List.length_nil, mz_s1, mz_s2, mz_cl, true_and, and_true, false_and, and_false, List.append_nil, mk_b0, mk_b1, mk_b2, mk_bn, Value.int.injEq, Option.toList_some, Option.toList_none, List.cons_append, List.nil_append, Classical.not_not, Option.some.injEq, reduceCtorEq, ne_eq, not_true_eq_false, not_false_eq_true, false_implies, true_implies, ev_48, ev_61, mz_rl d_Collator_matchOn_100, mz_rl d_Collator_matchOn_103, mz_rl d_Collator_matchOn_165, mz_rl d_Collator_matchOn_168, j_Collator_matchOn_103, j_Collator_matchOn_168, nF_3, nI_add, c10]
      exact ih (k + 1) (i + 1) j _ M' lt _ _ w14 (by omega) (by omega) hlt hR' (fun v hv => by cases hv; rfl) (fun v hv => by cases hv; rfl) (hnew y z hnd)
    have addO : ∀ (D A r : Nat) (c' : Nat → Nat) (M' : mtM) (w13 : Value), w13.category = 1 → mtF s fr to c co sz so m i (j + 1) lt M' = R → j < so → D ≠ A → Dk H D A r K c' → r < 200 → (∀ y z, Dk (mz_u (mz_u H A y) D z) D A (r + 1) K (va_up c' r (co j)) → mtI f (mz_u (mz_u H A y) D z) e ea si K (k + 1) M') → mz_X G X 3 false b_Collator_matchOn 15 (some .int) (r_Collator_matchOn 0 0) post (fun _ _ _ => False) 151 [some (.ref 8), some (.ref d), some (.ref o), some (.ref e), some (.int (nI fr)), some (.int (nI to)), some (.int (nI (sz + so))), some (.int (nI si)), some (.int (nI i)), some (.int (nI j)), some (msV lt), some (.int (nI k)), some (.int O), some w13, some (.ref D)] [] 0 0 n H := by
      intro D A r c' M' w13 c13 hR' hj hDA hDk hr hnew
      have e1 := hPo j hj
      refine mz_go [156] 12 ?_
      simp only [mz_r0, mk_lit, mk_fin, mk_cat, mk_fit, mk_nar, mk_cls, mk_ty, mk_isr, List.mem_cons, List.not_mem_nil, or_false, or_true, false_or, true_or, Nat.reduceEqDiff, Nat.reduceAdd, Nat.reduceSub, Nat.reduceLT, Nat.reduceLeDiff, ↓reduceIte, if_true, if_false, List.getElem?_cons_zero, List.getElem?_cons_succ, List.set_cons_zero, List.set_cons_succ, List.length_cons, List.length_nil, mz_s1, mz_s2, mz_cl, true_and, and_true, false_and, and_false, List.append_nil, mk_b0, mk_b1, mk_b2, mk_bn, Value.int.injEq, Option.toList_some, Option.toList_none, List.cons_append, List.nil_append, Classical.not_not, Option.some.injEq, reduceCtorEq, ne_eq, not_true_eq_false, not_false_eq_true, false_implies, true_implies, ev_40, ev_41, ev_36, mz_rl d_Collator_matchOn_151, mz_rl d_Collator_matchOn_153, mz_rl d_Collator_matchOn_154, nF_3]
      refine mz_callV (by simp only [d_Collator_matchOn_156, Nat.reduceAdd]) g_3_30 rfl (fun _ _ h => h) (c_Deck_at G X n H k3 k4 (show j < 200 by omega) e1.1) k3 rfl rfl (by decide) (Nat.le_of_ble_eq_true rfl) rfl ?_; intro v_ n_ f_ h_; obtain ⟨rfl, hn_, hf_⟩ := h_; replace hn_ := hn_.symm; replace hf_ := hf_.symm; subst hn_; subst hf_
      have hDk' := id hDk
      obtain ⟨_, hDo, _, _⟩ := hDk'
      refine mz_callV (by simp only [d_Collator_matchOn_159, Nat.reduceAdd]) g_3_34 rfl (fun _ _ h => h) (Dk_add G X n H hDk hDA e1.2 (kC _ e1.2).1 hr) hDo rfl rfl (by decide) (Nat.le_of_ble_eq_true rfl) rfl ?_; rintro v_ n_ f_ ⟨rfl, rfl, y, z, rfl, hnd⟩
      refine mz_go [29] 12 ?_
      simp only [mz_r0, mk_lit, mk_fin, mk_cat, mk_fit, mk_nar, mk_cls, mk_ty, mk_isr, List.mem_cons, List.not_mem_nil, or_false, or_true, false_or, true_or, Nat.reduceEqDiff, Nat.reduceAdd, Nat.reduceSub, Nat.reduceLT, Nat.reduceLeDiff, ↓reduceIte, if_true, if_false, List.getElem?_cons_zero, List.getElem?_cons_succ, List.set_cons_zero, List.set_cons_succ, List.length_cons, List.length_nil, mz_s1, mz_s2, mz_cl, true_and, and_true, false_and, and_false, List.append_nil, mk_b0, mk_b1, mk_b2, mk_bn, Value.int.injEq, Option.toList_some, Option.toList_none, List.cons_append, List.nil_append, Classical.not_not, Option.some.injEq, reduceCtorEq, ne_eq, not_true_eq_false, not_false_eq_true, false_implies, true_implies, ev_48, ev_61, mz_rl d_Collator_matchOn_162, mz_rl d_Collator_matchOn_165, mz_rl d_Collator_matchOn_168, j_Collator_matchOn_168, nF_3, nI_add, c10]
      exact ih (k + 1) i (j + 1) _ M' lt _ _ _ (by omega) (by omega) hlt hR' (fun v hv => by cases hv; rfl) (fun v hv => by cases hv; exact c13) (hnew y z hnd)
    have to9 : ∀ x y z, Dk (mz_u (mz_u H 10 y) 9 z) 9 10 (M.1.1 + 1) K (va_up M.1.2 M.1.1 x) → mtI f (mz_u (mz_u H 10 y) 9 z) e ea si K (k + 1) (mtP M.1 x, M.2.1, M.2.2) := fun x y z hn => ⟨fun q q1 q2 q3 q4 q5 q6 => by rw [mz_u_n q1, mz_u_n q2]; exact hfr q q1 q2 q3 q4 q5 q6, by show M.1.1 + 1 + M.2.1.1 + M.2.2.1 = _; omega, hn, Dk_other hD2 (by decide) (by decide) (by decide) (by decide) _ _, Dk_other hD3 (by omega) (by omega) (by omega) (by omega) _ _⟩
    have to11 : ∀ x y z, Dk (mz_u (mz_u H 12 y) 11 z) 11 12 (M.2.1.1 + 1) K (va_up M.2.1.2 M.2.1.1 x) → mtI f (mz_u (mz_u H 12 y) 11 z) e ea si K (k + 1) (M.1, mtP M.2.1 x, M.2.2) := fun x y z hn => ⟨fun q q1 q2 q3 q4 q5 q6 => by rw [mz_u_n q3, mz_u_n q4]; exact hfr q q1 q2 q3 q4 q5 q6, by show M.1.1 + (M.2.1.1 + 1) + M.2.2.1 = _; omega, Dk_other hD1 (by decide) (by decide) (by decide) (by decide) _ _, hn, Dk_other hD3 (by omega) (by omega) (by omega) (by omega) _ _⟩
    have toE : ∀ x y z, Dk (mz_u (mz_u H ea y) e z) e ea (M.2.2.1 + 1) K (va_up M.2.2.2 M.2.2.1 x) → mtI f (mz_u (mz_u H ea y) e z) e ea si K (k + 1) (M.1, M.2.1, mtP M.2.2 x) := fun x y z hn => ⟨fun q q1 q2 q3 q4 q5 q6 => by rw [mz_u_n q5, mz_u_n q6]; exact hfr q q1 q2 q3 q4 q5 q6, by show M.1.1 + M.2.1.1 + (M.2.2.1 + 1) = _; omega, Dk_other hD1 (by omega) (by omega) (by omega) (by omega) _ _, Dk_other hD2 (by omega) (by omega) (by omega) (by omega) _ _, hn⟩
    refine mz_go [46] 12 ?_
    simp only [mz_r0, mk_lit, mk_fin, mk_cat, mk_fit, mk_nar, mk_cls, mk_ty, mk_isr, List.mem_cons, List.not_mem_nil, or_false, or_true, false_or, true_or, Nat.reduceEqDiff, Nat.reduceAdd, Nat.reduceSub, Nat.reduceLT, Nat.reduceLeDiff, ↓reduceIte, if_true, if_false, List.getElem?_cons_zero, List.getElem?_cons_succ, List.set_cons_zero, List.set_cons_succ, List.length_cons, List.length_nil, mz_s1, mz_s2, mz_cl, true_and, and_true, false_and, and_false, List.append_nil, mk_b0, mk_b1, mk_b2, mk_bn, Value.int.injEq, Option.toList_some, Option.toList_none, List.cons_append, List.nil_append, Classical.not_not, Option.some.injEq, reduceCtorEq, ne_eq, not_true_eq_false, not_false_eq_true, false_implies, true_implies, ev_36, ev_56, ev_41, ev_79, ft_3_0, fn_3_0, mz_rl d_Collator_matchOn_29, mz_rl d_Collator_matchOn_31, mz_rl d_Collator_matchOn_33, mz_rl d_Collator_matchOn_36, mz_rl d_Collator_matchOn_37, mz_rl d_Collator_matchOn_39, mz_rl d_Collator_matchOn_40, mz_rl d_Collator_matchOn_42, mz_rl d_Collator_matchOn_44, mz_rl d_Collator_matchOn_171, mz_rl d_Collator_matchOn_172, mz_rl d_Collator_matchOn_173, mz_rl d_Collator_matchOn_176, j_Collator_matchOn_33, nF_3, nI_leI (show sz + so < 2 ^ 31 by omega) (show k < 2 ^ 31 by omega), show ¬ sz + so ≤ k by omega]
    refine mz_callS (by simp only [d_Collator_matchOn_46, Nat.reduceAdd]) g_3_26 rfl (fun _ _ h => h) (c_Collator_orderOf G X n H k1 k2 k3 k4 (by omega) (by omega) kC hP hPo hf ht (show i < 2 ^ 31 by omega) (show j < 2 ^ 31 by omega)) (by decide) (Nat.le_of_ble_eq_true rfl) rfl ?_; intro v_ n_ f_ h_; obtain ⟨rfl, hn_, hf_⟩ := h_; replace hn_ := hn_.symm; replace hf_ := hf_.symm; subst hn_; subst hf_
    rw [← hO]
    rw [← hO] at hR
    by_cases hgt : (0 : Int32) < O
    · rw [if_pos hgt] at hR
      have hj : j < so := ordK_gt (s := s) (fr := fr) (to := to) (sz := sz) (so := so) (i := i) (j := j) (c := c) (co := co) (fun z => by rw [← hO, mk_le] at z; rw [mk_lt] at hgt; omega)
      have e1 := hPo j hj
      have z0 : (nI 0 = 0) = True := by simp; decide
      have z1 : (nI 1 = 0) = False := by simp; decide
      cases lt with
      | none =>
        have nx := addO 11 12 M.2.1.1 M.2.1.2 _ (.int (nI 0)) rfl hR hj (by decide) hD2 (by omega) (to11 (co j))
        refine mz_go [151] 40 ?_
        simp only [mz_r0, mk_lit, mk_fin, mk_cat, mk_fit, mk_nar, mk_cls, mk_ty, mk_isr, List.mem_cons, List.not_mem_nil, or_false, or_true, false_or, true_or, Nat.reduceEqDiff, Nat.reduceAdd, Nat.reduceSub, Nat.reduceLT, Nat.reduceLeDiff, ↓reduceIte, if_true, if_false, List.getElem?_cons_zero, List.getElem?_cons_succ, List.set_cons_zero, List.set_cons_succ, List.length_cons, List.length_nil, mz_s1, mz_s2, mz_cl, true_and, and_true, false_and, and_false, List.append_nil, mk_b0, mk_b1, mk_b2, mk_bn, Value.int.injEq, Option.toList_some, Option.toList_none, List.cons_append, List.nil_append, Classical.not_not, Option.some.injEq, reduceCtorEq, ne_eq, not_true_eq_false, not_false_eq_true, false_implies, true_implies, ev_42, ev_36, ev_57, ev_51, ev_41, ev_40, ev_46, ev_61, ev_79, ft_3_0, fn_3_0, ev_62, ev_0, ev_49, ft_3_1, fn_3_1, mz_rl d_Collator_matchOn_49, mz_rl d_Collator_matchOn_51, mz_rl d_Collator_matchOn_53, mz_rl d_Collator_matchOn_56, mz_rl d_Collator_matchOn_58, mz_rl d_Collator_matchOn_61, mz_rl d_Collator_matchOn_62, mz_rl d_Collator_matchOn_64, mz_rl d_Collator_matchOn_70, mz_rl d_Collator_matchOn_72, mz_rl d_Collator_matchOn_74, mz_rl d_Collator_matchOn_76, mz_rl d_Collator_matchOn_79, mz_rl d_Collator_matchOn_80, mz_rl d_Collator_matchOn_83, mz_rl d_Collator_matchOn_84, mz_rl d_Collator_matchOn_87, mz_rl d_Collator_matchOn_89, mz_rl d_Collator_matchOn_91, mz_rl d_Collator_matchOn_92, mz_rl d_Collator_matchOn_94, mz_rl d_Collator_matchOn_106, mz_rl d_Collator_matchOn_108, mz_rl d_Collator_matchOn_111, mz_rl d_Collator_matchOn_112, mz_rl d_Collator_matchOn_114, mz_rl d_Collator_matchOn_133, mz_rl d_Collator_matchOn_134, mz_rl d_Collator_matchOn_136, mz_rl d_Collator_matchOn_138, mz_rl d_Collator_matchOn_141, mz_rl d_Collator_matchOn_142, mz_rl d_Collator_matchOn_145, mz_rl d_Collator_matchOn_146, mz_rl d_Collator_matchOn_149, j_Collator_matchOn_53, j_Collator_matchOn_58, j_Collator_matchOn_76, j_Collator_matchOn_80, j_Collator_matchOn_108, j_Collator_matchOn_138, j_Collator_matchOn_142, nF_3, hgt, c10, z0, k8, msV]
        exact nx
      | some x =>
        have hx := hlt x rfl
        refine mz_go [114] 12 ?_
        simp only [mz_r0, mk_lit, mk_fin, mk_cat, mk_fit, mk_nar, mk_cls, mk_ty, mk_isr, List.mem_cons, List.not_mem_nil, or_false, or_true, false_or, true_or, Nat.reduceEqDiff, Nat.reduceAdd, Nat.reduceSub, Nat.reduceLT, Nat.reduceLeDiff, ↓reduceIte, if_true, if_false, List.getElem?_cons_zero, List.getElem?_cons_succ, List.set_cons_zero, List.set_cons_succ, List.length_cons, List.length_nil, mz_s1, mz_s2, mz_cl, true_and, and_true, false_and, and_false, List.append_nil, mk_b0, mk_b1, mk_b2, mk_bn, Value.int.injEq, Option.toList_some, Option.toList_none, List.cons_append, List.nil_append, Classical.not_not, Option.some.injEq, reduceCtorEq, ne_eq, not_true_eq_false, not_false_eq_true, false_implies, true_implies, ev_42, ev_36, ev_57, ev_51, ev_41, ev_40, ev_46, ev_61, ev_79, ft_3_0, fn_3_0, ev_62, ev_0, ev_49, ft_3_1, fn_3_1, mz_rl d_Collator_matchOn_49, mz_rl d_Collator_matchOn_51, mz_rl d_Collator_matchOn_53, mz_rl d_Collator_matchOn_56, mz_rl d_Collator_matchOn_58, mz_rl d_Collator_matchOn_61, mz_rl d_Collator_matchOn_62, mz_rl d_Collator_matchOn_64, mz_rl d_Collator_matchOn_70, mz_rl d_Collator_matchOn_72, mz_rl d_Collator_matchOn_74, mz_rl d_Collator_matchOn_76, mz_rl d_Collator_matchOn_79, mz_rl d_Collator_matchOn_80, mz_rl d_Collator_matchOn_83, mz_rl d_Collator_matchOn_84, mz_rl d_Collator_matchOn_87, mz_rl d_Collator_matchOn_89, mz_rl d_Collator_matchOn_91, mz_rl d_Collator_matchOn_92, mz_rl d_Collator_matchOn_94, mz_rl d_Collator_matchOn_106, mz_rl d_Collator_matchOn_108, mz_rl d_Collator_matchOn_111, mz_rl d_Collator_matchOn_112, mz_rl d_Collator_matchOn_133, mz_rl d_Collator_matchOn_134, mz_rl d_Collator_matchOn_136, mz_rl d_Collator_matchOn_138, mz_rl d_Collator_matchOn_141, mz_rl d_Collator_matchOn_142, mz_rl d_Collator_matchOn_145, mz_rl d_Collator_matchOn_146, mz_rl d_Collator_matchOn_149, mz_rl d_Collator_matchOn_151, mz_rl d_Collator_matchOn_153, mz_rl d_Collator_matchOn_154, mz_rl d_Collator_matchOn_156, j_Collator_matchOn_53, j_Collator_matchOn_58, j_Collator_matchOn_76, j_Collator_matchOn_80, j_Collator_matchOn_108, j_Collator_matchOn_138, j_Collator_matchOn_142, nF_3, hgt, c10, msV]
        refine mz_callV (by simp only [d_Collator_matchOn_114, Nat.reduceAdd]) g_3_30 rfl (fun _ _ h => h) (c_Deck_at G X n H k3 k4 (show j < 200 by omega) e1.1) k3 rfl rfl (by decide) (Nat.le_of_ble_eq_true rfl) rfl ?_; intro v_ n_ f_ h_; obtain ⟨rfl, hn_, hf_⟩ := h_; replace hn_ := hn_.symm; replace hf_ := hf_.symm; subst hn_; subst hf_
        refine mz_go [123] 12 ?_
        simp only [mz_r0, mk_lit, mk_fin, mk_cat, mk_fit, mk_nar, mk_cls, mk_ty, mk_isr, List.mem_cons, List.not_mem_nil, or_false, or_true, false_or, true_or, Nat.reduceEqDiff, Nat.reduceAdd, Nat.reduceSub, Nat.reduceLT, Nat.reduceLeDiff, ↓reduceIte, if_true, if_false, List.getElem?_cons_zero, List.getElem?_cons_succ, List.set_cons_zero, List.set_cons_succ, List.length_cons, List.length_nil, mz_s1, mz_s2, mz_cl, true_and, and_true, false_and, and_false, List.append_nil, mk_b0, mk_b1, mk_b2, mk_bn, Value.int.injEq, Option.toList_some, Option.toList_none, List.cons_append, List.nil_append, Classical.not_not, Option.some.injEq, reduceCtorEq, ne_eq, not_true_eq_false, not_false_eq_true, false_implies, true_implies, ev_40, ev_36, mz_rl d_Collator_matchOn_117, mz_rl d_Collator_matchOn_119, mz_rl d_Collator_matchOn_121, nF_3]
        have qa := kC _ e1.2
        have qb := kC _ hx
        refine mz_callV (by simp only [d_Collator_matchOn_123, Nat.reduceAdd]) g_3_42 rfl (fun _ _ h => h) (c_Card_compareOn G X n H qa.1 qb.1 qa.2.1 qb.2.1 qa.2.2 qb.2.2 hf ht) qa.1 rfl rfl (by decide) (Nat.le_of_ble_eq_true rfl) rfl ?_; intro v_ n_ f_ h_; obtain ⟨rfl, hn_, hf_⟩ := h_; replace hn_ := hn_.symm; replace hf_ := hf_.symm; subst hn_; subst hf_
        refine mz_go [151] 40 ?_
        simp only [mz_r0, mk_lit, mk_fin, mk_cat, mk_fit, mk_nar, mk_cls, mk_ty, mk_isr, List.mem_cons, List.not_mem_nil, or_false, or_true, false_or, true_or, Nat.reduceEqDiff, Nat.reduceAdd, Nat.reduceSub, Nat.reduceLT, Nat.reduceLeDiff, ↓reduceIte, if_true, if_false, List.getElem?_cons_zero, List.getElem?_cons_succ, List.set_cons_zero, List.set_cons_succ, List.length_cons, List.length_nil, mz_s1, mz_s2, mz_cl, true_and, and_true, false_and, and_false, List.append_nil, mk_b0, mk_b1, mk_b2, mk_bn, Value.int.injEq, Option.toList_some, Option.toList_none, List.cons_append, List.nil_append, Classical.not_not, Option.some.injEq, reduceCtorEq, ne_eq, not_true_eq_false, not_false_eq_true, false_implies, true_implies, ev_51, ev_0, ev_61, ev_42, ev_36, ev_49, ev_41, ev_79, ft_3_1, fn_3_1, ev_46, mz_rl d_Collator_matchOn_126, mz_rl d_Collator_matchOn_129, mz_rl d_Collator_matchOn_130, mz_rl d_Collator_matchOn_133, mz_rl d_Collator_matchOn_134, mz_rl d_Collator_matchOn_136, mz_rl d_Collator_matchOn_138, mz_rl d_Collator_matchOn_141, mz_rl d_Collator_matchOn_142, mz_rl d_Collator_matchOn_145, mz_rl d_Collator_matchOn_146, mz_rl d_Collator_matchOn_149, j_Collator_matchOn_126, j_Collator_matchOn_130, j_Collator_matchOn_138, j_Collator_matchOn_142, nF_3, z0, z1, k8]
        refine ⟨fun h9 => ?_, fun h9 => ?_⟩
        · have hR2 := hR
          simp only [] at hR2
          rw [if_neg (show ¬ cmpC s fr to (co j) x = 0 from h9)] at hR2
          exact addO 11 12 M.2.1.1 M.2.1.2 _ _ rfl hR2 hj (by decide) hD2 (by omega) (to11 (co j))
        · have hR2 := hR
          simp only [] at hR2
          rw [if_pos (show cmpC s fr to (co j) x = 0 from h9)] at hR2
          exact addO e ea M.2.2.1 M.2.2.2 _ _ rfl hR2 hj hee hD3 (by omega) (toE (co j))
    · rw [if_neg hgt] at hR
      have hi : i < sz := ordK_le (s := s) (fr := fr) (to := to) (sz := sz) (so := so) (i := i) (j := j) (c := c) (co := co) (by rw [← hO, mk_le]; rw [mk_lt] at hgt; omega) (by omega)
      have e1 := hP i hi
      by_cases h0 : O = 0
      · rw [if_pos h0] at hR
        have h0' : (O = 0) = True := eq_true h0
        have hgt' : ((0 : Int32) < O) = False := eq_false hgt
        refine mz_go [64] 12 ?_
        simp only [mz_r0, mk_lit, mk_fin, mk_cat, mk_fit, mk_nar, mk_cls, mk_ty, mk_isr, List.mem_cons, List.not_mem_nil, or_false, or_true, false_or, true_or, Nat.reduceEqDiff, Nat.reduceAdd, Nat.reduceSub, Nat.reduceLT, Nat.reduceLeDiff, ↓reduceIte, if_true, if_false, List.getElem?_cons_zero, List.getElem?_cons_succ, List.set_cons_zero, List.set_cons_succ, List.length_cons, List.length_nil, mz_s1, mz_s2, mz_cl, true_and, and_true, false_and, and_false, List.append_nil, mk_b0, mk_b1, mk_b2, mk_bn, Value.int.injEq, Option.toList_some, Option.toList_none, List.cons_append, List.nil_append, Classical.not_not, Option.some.injEq, reduceCtorEq, ne_eq, not_true_eq_false, not_false_eq_true, false_implies, true_implies, ev_42, ev_36, ev_57, ev_51, ev_41, ev_40, ev_46, ev_61, ev_79, ft_3_0, fn_3_0, ev_62, ev_0, ev_49, ft_3_1, fn_3_1, mz_rl d_Collator_matchOn_49, mz_rl d_Collator_matchOn_51, mz_rl d_Collator_matchOn_53, mz_rl d_Collator_matchOn_56, mz_rl d_Collator_matchOn_58, mz_rl d_Collator_matchOn_61, mz_rl d_Collator_matchOn_62, mz_rl d_Collator_matchOn_70, mz_rl d_Collator_matchOn_72, mz_rl d_Collator_matchOn_74, mz_rl d_Collator_matchOn_76, mz_rl d_Collator_matchOn_79, mz_rl d_Collator_matchOn_80, mz_rl d_Collator_matchOn_83, mz_rl d_Collator_matchOn_84, mz_rl d_Collator_matchOn_87, mz_rl d_Collator_matchOn_89, mz_rl d_Collator_matchOn_91, mz_rl d_Collator_matchOn_92, mz_rl d_Collator_matchOn_94, mz_rl d_Collator_matchOn_106, mz_rl d_Collator_matchOn_108, mz_rl d_Collator_matchOn_111, mz_rl d_Collator_matchOn_112, mz_rl d_Collator_matchOn_114, mz_rl d_Collator_matchOn_133, mz_rl d_Collator_matchOn_134, mz_rl d_Collator_matchOn_136, mz_rl d_Collator_matchOn_138, mz_rl d_Collator_matchOn_141, mz_rl d_Collator_matchOn_142, mz_rl d_Collator_matchOn_145, mz_rl d_Collator_matchOn_146, mz_rl d_Collator_matchOn_149, mz_rl d_Collator_matchOn_151, mz_rl d_Collator_matchOn_153, mz_rl d_Collator_matchOn_154, mz_rl d_Collator_matchOn_156, j_Collator_matchOn_53, j_Collator_matchOn_58, j_Collator_matchOn_76, j_Collator_matchOn_80, j_Collator_matchOn_108, j_Collator_matchOn_138, j_Collator_matchOn_142, nF_3, hgt', h0', c10]
        refine mz_callV (by simp only [d_Collator_matchOn_64, Nat.reduceAdd]) g_3_30 rfl (fun _ _ h => h) (c_Deck_at G X n H k1 k2 (show i < 200 by omega) e1.1) k1 rfl rfl (by decide) (Nat.le_of_ble_eq_true rfl) rfl ?_; intro v_ n_ f_ h_; obtain ⟨rfl, hn_, hf_⟩ := h_; replace hn_ := hn_.symm; replace hf_ := hf_.symm; subst hn_; subst hf_
        refine mz_go [89] 12 ?_
        simp only [mz_r0, mk_lit, mk_fin, mk_cat, mk_fit, mk_nar, mk_cls, mk_ty, mk_isr, List.mem_cons, List.not_mem_nil, or_false, or_true, false_or, true_or, Nat.reduceEqDiff, Nat.reduceAdd, Nat.reduceSub, Nat.reduceLT, Nat.reduceLeDiff, ↓reduceIte, if_true, if_false, List.getElem?_cons_zero, List.getElem?_cons_succ, List.set_cons_zero, List.set_cons_succ, List.length_cons, List.length_nil, mz_s1, mz_s2, mz_cl, true_and, and_true, false_and, and_false, List.append_nil, mk_b0, mk_b1, mk_b2, mk_bn, Value.int.injEq, Option.toList_some, Option.toList_none, List.cons_append, List.nil_append, Classical.not_not, Option.some.injEq, reduceCtorEq, ne_eq, not_true_eq_false, not_false_eq_true, false_implies, true_implies, ev_61, ev_46, ev_36, ev_51, ev_41, ev_79, ft_3_0, fn_3_0, mz_rl d_Collator_matchOn_67, mz_rl d_Collator_matchOn_72, mz_rl d_Collator_matchOn_74, mz_rl d_Collator_matchOn_76, mz_rl d_Collator_matchOn_79, mz_rl d_Collator_matchOn_80, mz_rl d_Collator_matchOn_83, mz_rl d_Collator_matchOn_84, mz_rl d_Collator_matchOn_87, j_Collator_matchOn_67, j_Collator_matchOn_76, j_Collator_matchOn_80, nF_3, h0', c10]
        exact addD (some (c i)) e ea M.2.2.1 M.2.2.2 _ (fun x hx => by cases hx; exact e1.2) hR hi hee hD3 (by omega) (toE (c i))
      · rw [if_neg h0] at hR
        have h0' : (O = 0) = False := eq_false h0
        have hgt' : ((0 : Int32) < O) = False := eq_false hgt
        have nx := addD lt 9 10 M.1.1 M.1.2 _ hlt hR hi (by decide) hD1 (by omega) (to9 (c i))
        cases lt with
        | none =>
          refine mz_go [89] 30 ?_
          simp only [mz_r0, mk_lit, mk_fin, mk_cat, mk_fit, mk_nar, mk_cls, mk_ty, mk_isr, List.mem_cons, List.not_mem_nil, or_false, or_true, false_or, true_or, Nat.reduceEqDiff, Nat.reduceAdd, Nat.reduceSub, Nat.reduceLT, Nat.reduceLeDiff, ↓reduceIte, if_true, if_false, List.getElem?_cons_zero, List.getElem?_cons_succ, List.set_cons_zero, List.set_cons_succ, List.length_cons, List.length_nil, mz_s1, mz_s2, mz_cl, true_and, and_true, false_and, and_false, List.append_nil, mk_b0, mk_b1, mk_b2, mk_bn, Value.int.injEq, Option.toList_some, Option.toList_none, List.cons_append, List.nil_append, Classical.not_not, Option.some.injEq, reduceCtorEq, ne_eq, not_true_eq_false, not_false_eq_true, false_implies, true_implies, ev_42, ev_36, ev_57, ev_51, ev_41, ev_40, ev_46, ev_61, ev_79, ft_3_0, fn_3_0, ev_62, ev_0, ev_49, ft_3_1, fn_3_1, mz_rl d_Collator_matchOn_49, mz_rl d_Collator_matchOn_51, mz_rl d_Collator_matchOn_53, mz_rl d_Collator_matchOn_56, mz_rl d_Collator_matchOn_58, mz_rl d_Collator_matchOn_61, mz_rl d_Collator_matchOn_62, mz_rl d_Collator_matchOn_64, mz_rl d_Collator_matchOn_70, mz_rl d_Collator_matchOn_72, mz_rl d_Collator_matchOn_74, mz_rl d_Collator_matchOn_76, mz_rl d_Collator_matchOn_79, mz_rl d_Collator_matchOn_80, mz_rl d_Collator_matchOn_83, mz_rl d_Collator_matchOn_84, mz_rl d_Collator_matchOn_87, mz_rl d_Collator_matchOn_106, mz_rl d_Collator_matchOn_108, mz_rl d_Collator_matchOn_111, mz_rl d_Collator_matchOn_112, mz_rl d_Collator_matchOn_114, mz_rl d_Collator_matchOn_133, mz_rl d_Collator_matchOn_134, mz_rl d_Collator_matchOn_136, mz_rl d_Collator_matchOn_138, mz_rl d_Collator_matchOn_141, mz_rl d_Collator_matchOn_142, mz_rl d_Collator_matchOn_145, mz_rl d_Collator_matchOn_146, mz_rl d_Collator_matchOn_149, mz_rl d_Collator_matchOn_151, mz_rl d_Collator_matchOn_153, mz_rl d_Collator_matchOn_154, mz_rl d_Collator_matchOn_156, j_Collator_matchOn_53, j_Collator_matchOn_58, j_Collator_matchOn_76, j_Collator_matchOn_80, j_Collator_matchOn_108, j_Collator_matchOn_138, j_Collator_matchOn_142, nF_3, hgt', h0', c10, k8, msV]
          exact nx
        | some x =>
          refine mz_go [89] 30 ?_
          simp only [mz_r0, mk_lit, mk_fin, mk_cat, mk_fit, mk_nar, mk_cls, mk_ty, mk_isr, List.mem_cons, List.not_mem_nil, or_false, or_true, false_or, true_or, Nat.reduceEqDiff, Nat.reduceAdd, Nat.reduceSub, Nat.reduceLT, Nat.reduceLeDiff, ↓reduceIte, if_true, if_false, List.getElem?_cons_zero, List.getElem?_cons_succ, List.set_cons_zero, List.set_cons_succ, List.length_cons, List.length_nil, mz_s1, mz_s2, mz_cl, true_and, and_true, false_and, and_false, List.append_nil, mk_b0, mk_b1, mk_b2, mk_bn, Value.int.injEq, Option.toList_some, Option.toList_none, List.cons_append, List.nil_append, Classical.not_not, Option.some.injEq, reduceCtorEq, ne_eq, not_true_eq_false, not_false_eq_true, false_implies, true_implies, ev_42, ev_36, ev_57, ev_51, ev_41, ev_40, ev_46, ev_61, ev_79, ft_3_0, fn_3_0, ev_62, ev_0, ev_49, ft_3_1, fn_3_1, mz_rl d_Collator_matchOn_49, mz_rl d_Collator_matchOn_51, mz_rl d_Collator_matchOn_53, mz_rl d_Collator_matchOn_56, mz_rl d_Collator_matchOn_58, mz_rl d_Collator_matchOn_61, mz_rl d_Collator_matchOn_62, mz_rl d_Collator_matchOn_64, mz_rl d_Collator_matchOn_70, mz_rl d_Collator_matchOn_72, mz_rl d_Collator_matchOn_74, mz_rl d_Collator_matchOn_76, mz_rl d_Collator_matchOn_79, mz_rl d_Collator_matchOn_80, mz_rl d_Collator_matchOn_83, mz_rl d_Collator_matchOn_84, mz_rl d_Collator_matchOn_87, mz_rl d_Collator_matchOn_106, mz_rl d_Collator_matchOn_108, mz_rl d_Collator_matchOn_111, mz_rl d_Collator_matchOn_112, mz_rl d_Collator_matchOn_114, mz_rl d_Collator_matchOn_133, mz_rl d_Collator_matchOn_134, mz_rl d_Collator_matchOn_136, mz_rl d_Collator_matchOn_138, mz_rl d_Collator_matchOn_141, mz_rl d_Collator_matchOn_142, mz_rl d_Collator_matchOn_145, mz_rl d_Collator_matchOn_146, mz_rl d_Collator_matchOn_149, mz_rl d_Collator_matchOn_151, mz_rl d_Collator_matchOn_153, mz_rl d_Collator_matchOn_154, mz_rl d_Collator_matchOn_156, j_Collator_matchOn_53, j_Collator_matchOn_58, j_Collator_matchOn_76, j_Collator_matchOn_80, j_Collator_matchOn_108, j_Collator_matchOn_138, j_Collator_matchOn_142, nF_3, hgt', h0', c10, k8, msV]
          exact nx
end
section
theorem Dk_take (G : mz_G) (X : mz_E) (n : Nat) (H : mz_H) {d a o b sd so K : Nat} {co : Nat → Nat} (hd : ∃ g, H d = .inr (4, [.ref a, .int (nI sd)]) ∧ H a = aQ 6 200 g) (ho : Dk H o b so K co) (hdo : d ≠ o) (hab : a ≠ b) (hda : d ≠ a) (hao : a ≠ o) (hso : so ≤ 200) (hbr : b ≠ d ∧ b ≠ o) (hC : ∀ x, x < K → ∃ fs, H (172 + 2 * x) = .inr (2, fs)) : mz_Ct G X y_Deck_takeAllOf b_Deck_takeAllOf 3 none (r_Deck_takeAllOf 0 0) [.ref d, .ref o] n H (fun v n' H' => v = none ∧ n' = n ∧ (∀ z, z ≠ d → z ≠ a → z ≠ o → H' z = H z) ∧ Dk H' d a so K co ∧ Dk H' o b 0 K co) := by
  obtain ⟨g, hd1, hd2⟩ := hd
  obtain ⟨go, b1, b2, b3⟩ := ho
  intro ad sz hwf hok
  refine mz_Mono (c_Deck_takeAllOf G X n H hd1 hd2 b1 b2 hdo hab hso (fun j hj => by
    obtain ⟨fs, hfs⟩ := hC _ (b3 j hj).2
    exact ⟨_, fs, (b3 j hj).1, hfs⟩) ad sz hwf hok) ?_
  rintro v n' f' ⟨rfl, rfl, rfl⟩
  refine ⟨rfl, rfl, fun z z1 z2 z3 => by rw [mz_u_n z3, mz_u_n z1, mz_u_n z2], ⟨cpy go g so, ?_, ?_, fun j hj => ?_⟩, ⟨go, mz_u_s _ _ _, ?_, fun j hj => absurd hj (by omega)⟩⟩
  · rw [mz_u_n hdo, mz_u_s]
  · rw [mz_u_n hao, mz_u_n (Ne.symm hda), mz_u_s]
  · rw [cpy_lt hj]; exact b3 j hj
  · rw [mz_u_n hbr.2, mz_u_n hbr.1, mz_u_n (Ne.symm hab)]; exact b2
def mtPost (f : mz_H) (n d a o b e ea si K t : Nat) (br : Int32) (R : mtM) (v : Option Value) (n' : Nat) (F' : mz_H) : Prop := v = some (.int (nI (R.2.2.1 - si))) ∧ n' = n ∧ R.1.1 + R.2.1.1 + R.2.2.1 = si + t ∧ (∀ z, z ≠ 8 → z ≠ 9 → z ≠ 10 → z ≠ 11 → z ≠ 12 → z ≠ e → z ≠ ea → z ≠ d → z ≠ a → z ≠ o → z ≠ b → F' z = f z) ∧ F' 8 = .inr (3, [.ref 9, .ref 11, .int (br + nI (R.2.2.1 - si))]) ∧ (∃ x, Dk F' 9 10 0 K x) ∧ (∃ x, Dk F' 11 12 0 K x) ∧ Dk F' e ea R.2.2.1 K R.2.2.2 ∧ Dk F' d a R.1.1 K R.1.2 ∧ Dk F' o b R.2.1.1 K R.2.1.2
theorem mtF_ge {s : Nat → Nat → Nat} {fr to sz so : Nat} {c co : Nat → Nat} : ∀ m i j lt M, M.2.2.1 ≤ (mtF s fr to c co sz so m i j lt M).2.2.1 := by
  intro m
  induction m with
  | zero => intro i j lt M; exact Nat.le_refl _
  | succ m ih =>
    intro i j lt M
    unfold mtF
    split
    · cases lt with
      | none => exact ih i (j + 1) none (M.1, mtP M.2.1 (co j), M.2.2)
      | some x =>
        simp only []
        split
        · exact Nat.le_trans (Nat.le_succ _) (ih i (j + 1) (some x) (M.1, M.2.1, mtP M.2.2 (co j)))
        · exact ih i (j + 1) (some x) (M.1, mtP M.2.1 (co j), M.2.2)
    · split
      · exact Nat.le_trans (Nat.le_succ _) (ih (i + 1) j (some (c i)) (M.1, M.2.1, mtP M.2.2 (c i)))
      · exact ih (i + 1) j lt (mtP M.1 (c i), M.2.1, M.2.2)
theorem c_Collator_matchOn (G : mz_G) (X : mz_E) (n : Nat) (f : mz_H) {d a o b e ea sz so si fr to K : Nat} {s : Nat → Nat → Nat} {c co ce c1 c2 : Nat → Nat} {br : Int32} (h8 : f 8 = .inr (3, [.ref 9, .ref 11, .int br])) (hD1 : Dk f 9 10 0 K c1) (hD2 : Dk f 11 12 0 K c2) (hd : Dk f d a sz K c) (ho : Dk f o b so K co) (he : Dk f e ea si K ce) (hs : sz + so + si ≤ 200) (hC : Cd f K s) (hf : fr ≤ to) (ht : to < 16) (hdr : 12 < d ∧ d < 172) (har : 12 < a ∧ a < 172) (hor : 12 < o ∧ o < 172) (hbr : 12 < b ∧ b < 172) (her : 12 < e ∧ e < 172) (hear : 12 < ea ∧ ea < 172) (hde : d ≠ e ∧ d ≠ ea) (hae : a ≠ e ∧ a ≠ ea) (hoe : o ≠ e ∧ o ≠ ea) (hbe : b ≠ e ∧ b ≠ ea) (hee : e ≠ ea) (hdo : d ≠ o ∧ d ≠ b ∧ d ≠ a) (hao : a ≠ o ∧ a ≠ b) (hob : o ≠ b) :
    mz_Ct G X y_Collator_matchOn b_Collator_matchOn 15 (some .int) (r_Collator_matchOn 0 0) [.ref 8, .ref d, .ref o, .ref e, .int (nI fr), .int (nI to)] n f (mtPost f n d a o b e ea si K (sz + so) br (mtF s fr to c co sz so (sz + so) 0 0 none ((0, c1), (0, c2), (si, ce)))) := by
  obtain ⟨g, h1, h2, hP⟩ := id hd
  obtain ⟨go, h3, h4, hPo⟩ := id ho
  obtain ⟨ge, h5, h6, hPe⟩ := id he
  obtain ⟨R, hR⟩ : ∃ R, (mtF s fr to c co sz so (sz + so) 0 0 none ((0, c1), (0, c2), (si, ce))) = R := ⟨_, rfl⟩
  rw [hR]
  have hge : si ≤ R.2.2.1 := by rw [← hR]; exact mtF_ge (sz + so) 0 0 none ((0, c1), (0, c2), (si, ce))
  refine mk_Ct 3 false [some (.ref 8), some (.ref d), some (.ref o), some (.ref e), some (.int (nI fr)), some (.int (nI to)), none, none, none, none, none, none, none, none, none] (by decide) rfl (by decide) (Nat.le_of_ble_eq_true rfl) rfl ?_
  refine mz_go [29] 30 ?_
  simp only [mz_r0, mk_lit, mk_fin, mk_cat, mk_fit, mk_nar, mk_cls, mk_ty, mk_isr, List.mem_cons, List.not_mem_nil, or_false, or_true, false_or, true_or, Nat.reduceEqDiff, Nat.reduceAdd, Nat.reduceSub, Nat.reduceLT, Nat.reduceLeDiff, ↓reduceIte, if_true, if_false, List.getElem?_cons_zero, List.getElem?_cons_succ, List.set_cons_zero, List.set_cons_succ, List.length_cons, List.length_nil, mz_s1, mz_s2, mz_cl, true_and, and_true, false_and, and_false, List.append_nil, mk_b0, mk_b1, mk_b2, mk_bn, Value.int.injEq, Option.toList_some, Option.toList_none, List.cons_append, List.nil_append, Classical.not_not, Option.some.injEq, reduceCtorEq, ne_eq, not_true_eq_false, not_false_eq_true, false_implies, true_implies, ev_41, ev_79, ft_4_1, fn_4_1, ev_5, ev_42, ev_0, ev_4, ev_46, mz_rl d_Collator_matchOn_0, mz_rl d_Collator_matchOn_1, mz_rl d_Collator_matchOn_4, mz_rl d_Collator_matchOn_5, mz_rl d_Collator_matchOn_8, mz_rl d_Collator_matchOn_9, mz_rl d_Collator_matchOn_11, mz_rl d_Collator_matchOn_12, mz_rl d_Collator_matchOn_15, mz_rl d_Collator_matchOn_17, mz_rl d_Collator_matchOn_18, mz_rl d_Collator_matchOn_20, mz_rl d_Collator_matchOn_21, mz_rl d_Collator_matchOn_23, mz_rl d_Collator_matchOn_24, mz_rl d_Collator_matchOn_26, mz_rl d_Collator_matchOn_27, nF_3, h1, h3, h5, nI_add]
  refine l_Collator_matchOn G X n f (mtPost f n d a o b e ea si K (sz + so) br R) h8 h1 h2 h3 h4 hs hC hP hPo hf ht hdr har hor hbr her hear hde hae hoe hbe hee R ?_ (sz + so) 0 0 0 f ((0, c1), (0, c2), (si, ce)) none none none none (by omega) (by omega) (fun x hx => by cases hx) hR (fun v hv => by cases hv) (fun v hv => by cases hv) ⟨fun _ _ _ _ _ _ _ => rfl, by show 0 + 0 + si = si + 0; omega, hD1, hD2, he⟩
  intro H i j w10 w12 w13 w14 hI
  obtain ⟨hfr, hsum, q1, q2, q3⟩ := hI
  have k8 := (hfr 8 (by decide) (by decide) (by decide) (by decide) (by omega) (by omega)).trans h8
  have k1 := (hfr d (by omega) (by omega) (by omega) (by omega) hde.1 hde.2).trans h1
  have k2 := (hfr a (by omega) (by omega) (by omega) (by omega) hae.1 hae.2).trans h2
  have k3 := (hfr o (by omega) (by omega) (by omega) (by omega) hoe.1 hoe.2).trans h3
  have k4 := (hfr b (by omega) (by omega) (by omega) (by omega) hbe.1 hbe.2).trans h4
  have kC : ∀ x, x < K → ∃ fs, H (172 + 2 * x) = .inr (2, fs) := fun x hx => ⟨_, (hfr (172 + 2 * x) (by omega) (by omega) (by omega) (by omega) (by omega) (by omega)).trans (hC x hx).1⟩
  refine mz_go [176] 30 ?_
  simp only [mz_run, ev_0, ev_1, ev_2, ev_3, ev_4, ev_5, ev_6, ev_7, ev_8, ev_9, ev_10, ev_11, ev_12, ev_13, ev_14, ev_15, ev_16, ev_17, ev_18, ev_19, ev_20, ev_21, ev_22, ev_23, ev_24, ev_25, ev_26, ev_27, ev_28, ev_29, ev_30, ev_31, ev_32, ev_33, ev_34, ev_35, ev_36, ev_37, ev_38, ev_39, ev_40, ev_41, ev_42, ev_43, ev_44, ev_45, ev_46, ev_47, ev_48, ev_49, ev_50, ev_51, ev_52, ev_53, ev_54, ev_55, ev_56, ev_57, ev_58, ev_59, ev_60, ev_61, ev_62, ev_63, ev_64, ev_65, ev_66, ev_67, ev_68, ev_69, ev_70, ev_71, ev_72, ev_73, ev_74, ev_75, ev_76, ev_77, ev_78, ev_79, ev_80, ev_81, ev_82, ev_83, mk_lit, mk_fin, mk_cat, mk_fit, mk_nar, mk_fld, mk_cls, mk_ty, mk_isr, List.mem_cons, List.not_mem_nil, or_false, or_true, false_or, true_or, Nat.reduceEqDiff, Nat.reduceAdd, Nat.reduceSub, Nat.reduceLT, Nat.reduceLeDiff, reduceIte, if_true, if_false, List.getElem?_cons_zero, List.getElem?_cons_succ, List.set_cons_zero, List.set_cons_succ, List.length_cons, List.length_nil, mz_s1, mz_s2, mz_cl, true_and, and_true, false_and, and_false, List.append_nil, mk_b0, mk_b1, mk_b2, mk_bn, Value.int.injEq, Option.toList_some, Option.toList_none, List.cons_append, List.nil_append, Classical.not_not, Option.some.injEq, reduceCtorEq, ne_eq, not_true_eq_false, not_false_eq_true, false_implies, true_implies, d_Collator_matchOn, j_Collator_matchOn, nF_3, k8]
  refine mz_callV (by simp only [d_Collator_matchOn_176, Nat.reduceAdd]) g_3_38 rfl (fun _ _ h => h) (Dk_take G X n H (d := d) (a := a) (sd := sz) ⟨g, k1, k2⟩ q1 (by omega) (by omega) hdo.2.2 (by omega) (by omega) ⟨by omega, by omega⟩ kC) k1 rfl rfl (by decide) (Nat.le_of_ble_eq_true rfl) rfl ?_; rintro v_ n_ f_ ⟨rfl, rfl, hf2, p1, p2⟩
  obtain ⟨H2, hH2⟩ : ∃ H2, H2 = f_ := ⟨_, rfl⟩
  subst hH2
  have s8 := (hf2 8 (by omega) (by omega) (by decide)).trans k8
  have s3 := (hf2 o (Ne.symm hdo.1) (Ne.symm hao.1) (by omega)).trans k3
  have s4 := (hf2 b (Ne.symm hdo.2.1) (Ne.symm hao.2) (by omega)).trans k4
  have sD2 : Dk H2 11 12 R.2.1.1 K R.2.1.2 := by
    obtain ⟨g', z1, z2, z3⟩ := q2
    exact ⟨g', (hf2 11 (by omega) (by omega) (by decide)).trans z1, (hf2 12 (by omega) (by omega) (by decide)).trans z2, z3⟩
  have sDe : Dk H2 e ea R.2.2.1 K R.2.2.2 := by
    obtain ⟨g', z1, z2, z3⟩ := q3
    exact ⟨g', (hf2 e (Ne.symm hde.1) (Ne.symm hae.1) (by omega)).trans z1, (hf2 ea (Ne.symm hde.2) (Ne.symm hae.2) (by omega)).trans z2, z3⟩
  have sC : ∀ x, x < K → ∃ fs, H2 (172 + 2 * x) = Sum.inr (2, fs) := fun x hx => by
    obtain ⟨fs, hfs⟩ := kC x hx
    exact ⟨fs, (hf2 _ (by omega) (by omega) (by omega)).trans hfs⟩
  refine mz_go [184] 30 ?_
  simp only [mz_r0, mk_lit, mk_fin, mk_cat, mk_fit, mk_nar, mk_cls, mk_ty, mk_isr, List.mem_cons, List.not_mem_nil, or_false, or_true, false_or, true_or, Nat.reduceEqDiff, Nat.reduceAdd, Nat.reduceSub, Nat.reduceLT, Nat.reduceLeDiff, ↓reduceIte, if_true, if_false, List.getElem?_cons_zero, List.getElem?_cons_succ, List.set_cons_zero, List.set_cons_succ, List.length_cons, List.length_nil, mz_s1, mz_s2, mz_cl, true_and, and_true, false_and, and_false, List.append_nil, mk_b0, mk_b1, mk_b2, mk_bn, Value.int.injEq, Option.toList_some, Option.toList_none, List.cons_append, List.nil_append, Classical.not_not, Option.some.injEq, reduceCtorEq, ne_eq, not_true_eq_false, not_false_eq_true, false_implies, true_implies, ev_41, ev_79, ft_3_1, fn_3_1, mz_rl d_Collator_matchOn_179, mz_rl d_Collator_matchOn_180, mz_rl d_Collator_matchOn_181, nF_3, s8]
  refine mz_callV (by simp only [d_Collator_matchOn_184, Nat.reduceAdd]) g_3_38 rfl (fun _ _ h => h) (Dk_take G X _ H2 (d := o) (a := b) (sd := so) ⟨go, s3, s4⟩ sD2 (by omega) (by omega) hob (by omega) (by omega) ⟨by omega, by omega⟩ sC) s3 rfl rfl (by decide) (Nat.le_of_ble_eq_true rfl) rfl ?_; rintro v_ n_ f_ ⟨rfl, rfl, hf3, p3, p4⟩
  obtain ⟨H3, hH3⟩ : ∃ H3, H3 = f_ := ⟨_, rfl⟩
  subst hH3
  have t8 := (hf3 8 (by omega) (by omega) (by decide)).trans s8
  have tDe : Dk H3 e ea R.2.2.1 K R.2.2.2 := by
    obtain ⟨g', z1, z2, z3⟩ := sDe
    exact ⟨g', (hf3 e (Ne.symm hoe.1) (Ne.symm hbe.1) (by omega)).trans z1, (hf3 ea (Ne.symm hoe.2) (Ne.symm hbe.2) (by omega)).trans z2, z3⟩
  have tDd : Dk H3 d a R.1.1 K R.1.2 := by
    obtain ⟨g', z1, z2, z3⟩ := p1
    exact ⟨g', (hf3 d hdo.1 hdo.2.1 (by omega)).trans z1, (hf3 a hao.1 hao.2 (by omega)).trans z2, z3⟩
  have tD9 : Dk H3 9 10 0 K R.1.2 := by
    obtain ⟨g', z1, z2, z3⟩ := p2
    exact ⟨g', (hf3 9 (by omega) (by omega) (by decide)).trans z1, (hf3 10 (by omega) (by omega) (by decide)).trans z2, z3⟩
  obtain ⟨g', z1, z2, z3⟩ := id tDe
  refine mz_go [] 30 ?_
  simp only [mz_r0, mk_lit, mk_fin, mk_cat, mk_fit, mk_nar, mk_cls, mk_ty, mk_isr, List.mem_cons, List.not_mem_nil, or_false, or_true, false_or, true_or, Nat.reduceEqDiff, Nat.reduceAdd, Nat.reduceSub, Nat.reduceLT, Nat.reduceLeDiff, ↓reduceIte, if_true, if_false, List.getElem?_cons_zero, List.getElem?_cons_succ, List.set_cons_zero, List.set_cons_succ, List.length_cons, List.length_nil, mz_s1, mz_s2, mz_cl, true_and, and_true, false_and, and_false, List.append_nil, mk_b0, mk_b1, mk_b2, mk_bn, Value.int.injEq, Option.toList_some, Option.toList_none, List.cons_append, List.nil_append, Classical.not_not, Option.some.injEq, reduceCtorEq, ne_eq, not_true_eq_false, not_false_eq_true, false_implies, true_implies, ev_41, ev_32, ev_79, ft_3_2, fn_3_2, ft_4_1, fn_4_1, ev_36, ev_6, ev_5, ev_80, ev_64, mz_rl d_Collator_matchOn_187, mz_rl d_Collator_matchOn_188, mz_rl d_Collator_matchOn_189, mz_rl d_Collator_matchOn_192, mz_rl d_Collator_matchOn_193, mz_rl d_Collator_matchOn_196, mz_rl d_Collator_matchOn_198, mz_rl d_Collator_matchOn_199, mz_rl d_Collator_matchOn_200, mz_rl d_Collator_matchOn_203, mz_rl d_Collator_matchOn_204, mz_rl d_Collator_matchOn_207, mz_rl d_Collator_matchOn_209, mz_rl d_Collator_matchOn_210, nF_3, t8, z1, mz_u_n (show e ≠ 8 by omega), pk_sub hge]
  have up : ∀ {D A r : Nat} {c' : Nat → Nat}, D ≠ 8 → A ≠ 8 → Dk H3 D A r K c' → ∀ x, Dk (mz_u H3 8 x) D A r K c' := fun h1 h2 h3 x => by
    obtain ⟨g', z1, z2, z3⟩ := h3
    exact ⟨g', by rw [mz_u_n h1]; exact z1, by rw [mz_u_n h2]; exact z2, z3⟩
  refine ⟨rfl, rfl, hsum, fun z a0 a1 a2 a3 a4 a5 a6 a7 a8 a9 a10 => ?_, mz_u_s _ _ _, ⟨_, up (by decide) (by decide) tD9 _⟩, ⟨_, up (by decide) (by decide) p4 _⟩, up (by omega) (by omega) tDe _, up (by omega) (by omega) tDd _, up (by omega) (by omega) p3 _⟩
  rw [mz_u_n a0, hf3 z a9 a10 a3, hf2 z a7 a8 a1, hfr z a1 a2 a3 a4 a5 a6]
/-- the into deck behind i cards of g -/
def apd (g gi : Nat → Option Nat) (si i : Nat) : Nat → Option Nat := fun j => if si ≤ j ∧ j < si + i then g (j - si) else gi j
theorem apd_up (g gi : Nat → Option Nat) (si i : Nat) : va_up (apd g gi si i) (si + i) (g i) = apd g gi si (i + 1) := by
  funext j
  unfold va_up apd
  by_cases e : j = si + i
  · subst e
    rw [if_pos rfl, if_pos (by omega)]
    congr 1; omega
  · rw [if_neg e]
    by_cases h : si ≤ j ∧ j < si + i
    · rw [if_pos h, if_pos (by omega)]
    · rw [if_neg h, if_neg (by omega)]
theorem l_Deck_moveFirst1 (G : mz_G) (X : mz_E) (n : Nat) (f : mz_H) {d a e ea sz si mv K : Nat} {g gi : Nat → Option Nat} {c : Nat → Nat} {x : Int32} (post : Option Value → Nat → mz_H → Prop) (h1 : f d = .inr (4, [.ref a, .int (nI sz)])) (h2 : f a = aQ 6 200 g) (hde : d ≠ e) (hdea : d ≠ ea) (hae : a ≠ e) (haea : a ≠ ea) (hee : e ≠ ea) (hP : Ps g sz c K) (hm : mv ≤ sz) (hs : sz ≤ 200) (hsi : si + mv ≤ 200) (hC : ∀ x, x < K → ∃ fs, f (172 + 2 * x) = .inr (2, fs)) (hlo : e < 172 ∧ ea < 172)
    (hend : mz_X G X 4 false b_Deck_moveFirst 5 none (r_Deck_moveFirst 0 0) post (fun _ _ _ => False) 32 [some (.ref d), some (.int x), some (.ref e), some (.int (nI mv)), some (.int (nI mv))] [] 0 0 n (mz_u (mz_u f ea (aQ 6 200 (apd g gi si mv))) e (.inr (4, [.ref ea, .int (nI (si + mv))])))) :
    ∀ m i, i + m = mv → mz_X G X 4 false b_Deck_moveFirst 5 none (r_Deck_moveFirst 0 0) post (fun _ _ _ => False) 9 [some (.ref d), some (.int x), some (.ref e), some (.int (nI mv)), some (.int (nI i))] [] 0 0 n (mz_u (mz_u f ea (aQ 6 200 (apd g gi si i))) e (.inr (4, [.ref ea, .int (nI (si + i))]))) := by
  intro m
  induction m with
  | zero =>
    intro i hi
    have : i = mv := by omega
    subst this
    refine mz_go [9, 32] 12 ?_
    simp only [mz_r0, mk_lit, mk_fin, mk_cat, mk_fit, mk_nar, mk_cls, mk_ty, mk_isr, List.mem_cons, List.not_mem_nil, or_false, or_true, false_or, true_or, Nat.reduceEqDiff, Nat.reduceAdd, Nat.reduceSub, Nat.reduceLT, Nat.reduceLeDiff, ↓reduceIte, if_true, if_false, List.getElem?_cons_zero, List.getElem?_cons_succ, List.set_cons_zero, List.set_cons_succ, List.length_cons, List.length_nil, mz_s1, mz_s2, mz_cl, true_and, and_true, false_and, and_false, List.append_nil, mk_b0, mk_b1, mk_b2, mk_bn, Value.int.injEq, Option.toList_some, Option.toList_none, List.cons_append, List.nil_append, Classical.not_not, Option.some.injEq, reduceCtorEq, ne_eq, not_true_eq_false, not_false_eq_true, false_implies, true_implies, ev_36, ev_37, ev_56, ev_41, ev_79, ft_4_0, fn_4_0, ev_76, mz_rl d_Deck_moveFirst_9, mz_rl d_Deck_moveFirst_11, mz_rl d_Deck_moveFirst_12, mz_rl d_Deck_moveFirst_15, mz_rl d_Deck_moveFirst_16, mz_rl d_Deck_moveFirst_17, mz_rl d_Deck_moveFirst_20, mz_rl d_Deck_moveFirst_22, mz_rl d_Deck_moveFirst_23, j_Deck_moveFirst_12, nF_4, nI_leI (show i < 2 ^ 31 by omega) (show i < 2 ^ 31 by omega), Nat.le_refl]
    exact hend
  | succ m ih =>
    intro i hi
    obtain ⟨H, hH⟩ : ∃ H, H = mz_u (mz_u f ea (aQ 6 200 (apd g gi si i))) e (.inr (4, [.ref ea, .int (nI (si + i))])) := ⟨_, rfl⟩
    rw [← hH]
    have ho : ∀ z, z ≠ e → z ≠ ea → H z = f z := fun z z1 z2 => by rw [hH, mz_u_n z1, mz_u_n z2]
    have k1 := (ho d hde hdea).trans h1
    have k2 := (ho a hae haea).trans h2
    have k3 : H e = .inr (4, [.ref ea, .int (nI (si + i))]) := by rw [hH]; exact mz_u_s _ _ _
    have k4 : H ea = aQ 6 200 (apd g gi si i) := by rw [hH, mz_u_n (Ne.symm hee), mz_u_s]
    have e1 := hP i (by omega)
    obtain ⟨fs, hfs⟩ := hC _ e1.2
    refine mz_go [23] 12 ?_
    simp only [mz_r0, mk_lit, mk_fin, mk_cat, mk_fit, mk_nar, mk_cls, mk_ty, mk_isr, List.mem_cons, List.not_mem_nil, or_false, or_true, false_or, true_or, Nat.reduceEqDiff, Nat.reduceAdd, Nat.reduceSub, Nat.reduceLT, Nat.reduceLeDiff, ↓reduceIte, if_true, if_false, List.getElem?_cons_zero, List.getElem?_cons_succ, List.set_cons_zero, List.set_cons_succ, List.length_cons, List.length_nil, mz_s1, mz_s2, mz_cl, true_and, and_true, false_and, and_false, List.append_nil, mk_b0, mk_b1, mk_b2, mk_bn, Value.int.injEq, Option.toList_some, Option.toList_none, List.cons_append, List.nil_append, Classical.not_not, Option.some.injEq, reduceCtorEq, ne_eq, not_true_eq_false, not_false_eq_true, false_implies, true_implies, ev_36, ev_37, ev_56, ev_41, ev_79, ft_4_0, fn_4_0, ev_76, ev_42, ft_4_1, fn_4_1, ev_6, ev_77, ev_48, ev_61, ev_32, ev_80, ev_67, mz_rl d_Deck_moveFirst_9, mz_rl d_Deck_moveFirst_11, mz_rl d_Deck_moveFirst_12, mz_rl d_Deck_moveFirst_15, mz_rl d_Deck_moveFirst_16, mz_rl d_Deck_moveFirst_17, mz_rl d_Deck_moveFirst_20, mz_rl d_Deck_moveFirst_22, mz_rl d_Deck_moveFirst_32, mz_rl d_Deck_moveFirst_33, mz_rl d_Deck_moveFirst_35, mz_rl d_Deck_moveFirst_37, mz_rl d_Deck_moveFirst_38, mz_rl d_Deck_moveFirst_41, mz_rl d_Deck_moveFirst_44, mz_rl d_Deck_moveFirst_45, mz_rl d_Deck_moveFirst_48, mz_rl d_Deck_moveFirst_50, mz_rl d_Deck_moveFirst_51, mz_rl d_Deck_moveFirst_52, mz_rl d_Deck_moveFirst_53, mz_rl d_Deck_moveFirst_56, mz_rl d_Deck_moveFirst_58, mz_rl d_Deck_moveFirst_59, mz_rl d_Deck_moveFirst_60, mz_rl d_Deck_moveFirst_63, mz_rl d_Deck_moveFirst_66, mz_rl d_Deck_moveFirst_67, mz_rl d_Deck_moveFirst_68, mz_rl d_Deck_moveFirst_71, mz_rl d_Deck_moveFirst_72, mz_rl d_Deck_moveFirst_73, mz_rl d_Deck_moveFirst_76, j_Deck_moveFirst_12, j_Deck_moveFirst_41, j_Deck_moveFirst_63, nF_4, nI_leI (show mv < 2 ^ 31 by omega) (show i < 2 ^ 31 by omega), show ¬ mv ≤ i by omega, k1, k2, vp_in_nI (show i < 200 by omega) (show 200 < 2 ^ 31 by decide), nI_clamp (show i < 2 ^ 31 by omega), e1.1, va_rf]
    refine mz_callV (by simp only [d_Deck_moveFirst_23, Nat.reduceAdd]) g_4_27 rfl (fun _ _ h => h) (c_Deck_add G X n H k3 k4 ((ho _ (by omega) (by omega)).trans hfs) (show si + i < 200 by omega)) k3 rfl rfl (by decide) (Nat.le_of_ble_eq_true rfl) rfl ?_; intro v_ n_ f_ h_; obtain ⟨rfl, hn_, hf_⟩ := h_; replace hn_ := hn_.symm; replace hf_ := hf_.symm; subst hn_; subst hf_
    rw [← e1.1, apd_up g gi si i, hH, mz_uc _ hee, mz_uu, mz_uu]
    refine mz_go [9] 12 ?_
    simp only [mz_r0, mk_lit, mk_fin, mk_cat, mk_fit, mk_nar, mk_cls, mk_ty, mk_isr, List.mem_cons, List.not_mem_nil, or_false, or_true, false_or, true_or, Nat.reduceEqDiff, Nat.reduceAdd, Nat.reduceSub, Nat.reduceLT, Nat.reduceLeDiff, ↓reduceIte, if_true, if_false, List.getElem?_cons_zero, List.getElem?_cons_succ, List.set_cons_zero, List.set_cons_succ, List.length_cons, List.length_nil, mz_s1, mz_s2, mz_cl, true_and, and_true, false_and, and_false, List.append_nil, mk_b0, mk_b1, mk_b2, mk_bn, Value.int.injEq, Option.toList_some, Option.toList_none, List.cons_append, List.nil_append, Classical.not_not, Option.some.injEq, reduceCtorEq, ne_eq, not_true_eq_false, not_false_eq_true, false_implies, true_implies, ev_48, ev_61, mz_rl d_Deck_moveFirst_26, mz_rl d_Deck_moveFirst_29, j_Deck_moveFirst_29, nF_4, nI_add]
    exact ih (i + 1) (by omega)
/-- the deck's own cards moved up by mv, those up to place i -/
def shf (g : Nat → Option Nat) (mv i : Nat) : Nat → Option Nat := fun j => if j + mv < i then g (j + mv) else g j
theorem shf_up (g : Nat → Option Nat) {mv i : Nat} (h : mv ≤ i) (hm : 0 < mv ∨ mv = 0) : va_up (shf g mv i) (i - mv) (g i) = shf g mv (i + 1) := by
  funext j
  unfold va_up shf
  by_cases e : j = i - mv
  · subst e
    rw [if_pos rfl, if_pos (by omega)]
    congr 1; omega
  · rw [if_neg e]
    by_cases h2 : j + mv < i
    · rw [if_pos h2, if_pos (by omega)]
    · rw [if_neg h2, if_neg (by omega)]
theorem shf_at (g : Nat → Option Nat) {mv i : Nat} : shf g mv i i = g i := by unfold shf; rw [if_neg (by omega)]
theorem l_Deck_moveFirst2 (G : mz_G) (X : mz_E) (n : Nat) (f : mz_H) {d a sz mv K : Nat} {g : Nat → Option Nat} {c : Nat → Nat} {x : Int32} {w2 : Option Value} (h1 : f d = .inr (4, [.ref a, .int (nI sz)])) (h2 : f a = aQ 6 200 g) (hP : Ps g sz c K) (hm : mv ≤ sz) (hs : sz ≤ 200) (hC : ∀ x, x < K → ∃ fs, f (172 + 2 * x) = .inr (2, fs)) (ha : a < 172) :
    ∀ m i, mv ≤ i → i + m = sz → mz_X G X 4 false b_Deck_moveFirst 5 none (r_Deck_moveFirst 0 0) (fun v n' f' => v = none ∧ n' = n ∧ f' = mz_u (mz_u f a (aQ 6 200 (shf g mv sz))) d (.inr (4, [.ref a, .int (nI (sz - mv))]))) (fun _ _ _ => False) 35 [some (.ref d), some (.int x), w2, some (.int (nI mv)), some (.int (nI i))] [] 0 0 n (mz_u f a (aQ 6 200 (shf g mv i))) := by
  have hda : d ≠ a := by rintro rfl; rw [h1] at h2; cases h2
  intro m
  induction m with
  | zero =>
    intro i hmi hi
    have : i = sz := by omega
    subst this
    refine mz_go [35] 30 ?_
    simp only [mz_r0, mk_lit, mk_fin, mk_cat, mk_fit, mk_nar, mk_cls, mk_ty, mk_isr, List.mem_cons, List.not_mem_nil, or_false, or_true, false_or, true_or, Nat.reduceEqDiff, Nat.reduceAdd, Nat.reduceSub, Nat.reduceLT, Nat.reduceLeDiff, ↓reduceIte, if_true, if_false, List.getElem?_cons_zero, List.getElem?_cons_succ, List.set_cons_zero, List.set_cons_succ, List.length_cons, List.length_nil, mz_s1, mz_s2, mz_cl, true_and, and_true, false_and, and_false, List.append_nil, mk_b0, mk_b1, mk_b2, mk_bn, Value.int.injEq, Option.toList_some, Option.toList_none, List.cons_append, List.nil_append, Classical.not_not, Option.some.injEq, reduceCtorEq, ne_eq, not_true_eq_false, not_false_eq_true, false_implies, true_implies, ev_36, ev_41, ev_79, ft_4_1, fn_4_1, ev_56, ft_4_0, fn_4_0, ev_37, ev_6, ev_76, ev_77, ev_48, ev_61, ev_32, ev_80, ev_67, mz_rl d_Deck_moveFirst_35, mz_rl d_Deck_moveFirst_37, mz_rl d_Deck_moveFirst_38, mz_rl d_Deck_moveFirst_41, mz_rl d_Deck_moveFirst_44, mz_rl d_Deck_moveFirst_45, mz_rl d_Deck_moveFirst_48, mz_rl d_Deck_moveFirst_50, mz_rl d_Deck_moveFirst_51, mz_rl d_Deck_moveFirst_52, mz_rl d_Deck_moveFirst_53, mz_rl d_Deck_moveFirst_56, mz_rl d_Deck_moveFirst_58, mz_rl d_Deck_moveFirst_59, mz_rl d_Deck_moveFirst_60, mz_rl d_Deck_moveFirst_63, mz_rl d_Deck_moveFirst_66, mz_rl d_Deck_moveFirst_67, mz_rl d_Deck_moveFirst_68, mz_rl d_Deck_moveFirst_71, mz_rl d_Deck_moveFirst_72, mz_rl d_Deck_moveFirst_73, mz_rl d_Deck_moveFirst_76, j_Deck_moveFirst_41, j_Deck_moveFirst_63, nF_4, h1, mz_u_n hda, nI_leI (show i < 2 ^ 31 by omega) (show i < 2 ^ 31 by omega), Nat.le_refl, pk_sub hm]
  | succ m ih =>
    intro i hmi hi
    have e1 := hP i (by omega)
    obtain ⟨fs, hfs⟩ := hC _ e1.2
    have es := shf_at g (mv := mv) (i := i)
    refine mz_go [35] 30 ?_
    simp only [mz_r0, mk_lit, mk_fin, mk_cat, mk_fit, mk_nar, mk_cls, mk_ty, mk_isr, List.mem_cons, List.not_mem_nil, or_false, or_true, false_or, true_or, Nat.reduceEqDiff, Nat.reduceAdd, Nat.reduceSub, Nat.reduceLT, Nat.reduceLeDiff, ↓reduceIte, if_true, if_false, List.getElem?_cons_zero, List.getElem?_cons_succ, List.set_cons_zero, List.set_cons_succ, List.length_cons, List.length_nil, mz_s1, mz_s2, mz_cl, true_and, and_true, false_and, and_false, List.append_nil, mk_b0, mk_b1, mk_b2, mk_bn, Value.int.injEq, Option.toList_some, Option.toList_none, List.cons_append, List.nil_append, Classical.not_not, Option.some.injEq, reduceCtorEq, ne_eq, not_true_eq_false, not_false_eq_true, false_implies, true_implies, ev_36, ev_41, ev_79, ft_4_1, fn_4_1, ev_56, ft_4_0, fn_4_0, ev_37, ev_6, ev_76, ev_77, ev_48, ev_61, ev_32, ev_80, ev_67, mz_rl d_Deck_moveFirst_35, mz_rl d_Deck_moveFirst_37, mz_rl d_Deck_moveFirst_38, mz_rl d_Deck_moveFirst_41, mz_rl d_Deck_moveFirst_44, mz_rl d_Deck_moveFirst_45, mz_rl d_Deck_moveFirst_48, mz_rl d_Deck_moveFirst_50, mz_rl d_Deck_moveFirst_51, mz_rl d_Deck_moveFirst_52, mz_rl d_Deck_moveFirst_53, mz_rl d_Deck_moveFirst_56, mz_rl d_Deck_moveFirst_58, mz_rl d_Deck_moveFirst_59, mz_rl d_Deck_moveFirst_60, mz_rl d_Deck_moveFirst_63, mz_rl d_Deck_moveFirst_66, mz_rl d_Deck_moveFirst_67, mz_rl d_Deck_moveFirst_68, mz_rl d_Deck_moveFirst_71, mz_rl d_Deck_moveFirst_72, mz_rl d_Deck_moveFirst_73, mz_rl d_Deck_moveFirst_76, j_Deck_moveFirst_41, j_Deck_moveFirst_63, nF_4, h1, mz_u_n hda, nI_leI (show sz < 2 ^ 31 by omega) (show i < 2 ^ 31 by omega), show ¬ sz ≤ i by omega, mz_u_s, pk_sub hmi, vp_in_nI (show i < 200 by omega) (show 200 < 2 ^ 31 by decide), nI_clamp (show i < 2 ^ 31 by omega), vp_in_nI (show i - mv < 200 by omega) (show 200 < 2 ^ 31 by decide), nI_clamp (show i - mv < 2 ^ 31 by omega), es, e1.1, va_rf, mz_u_n (show 172 + 2 * c i ≠ a by omega), hfs, mz_uu, nI_add]
    rw [← e1.1, shf_up g hmi (by omega)]
    exact ih (i + 1) (by omega) (by omega)
theorem c_Deck_moveFirst (G : mz_G) (X : mz_E) (n : Nat) (f : mz_H) {d a e ea sz si mv K : Nat} {c ci : Nat → Nat} {x : Int32} (hx : (if x < nI 0 then nI 0 else x) = nI mv) (hd : Dk f d a sz K c) (he : Dk f e ea si K ci) (hda : d ≠ a) (hde : d ≠ e) (hdea : d ≠ ea) (hae : a ≠ e) (haea : a ≠ ea) (hee : e ≠ ea) (hm : mv ≤ sz) (hs : sz ≤ 200) (hsi : si + mv ≤ 200) (hC : ∀ x, x < K → ∃ fs, f (172 + 2 * x) = .inr (2, fs)) (hlo : d < 172 ∧ a < 172 ∧ e < 172 ∧ ea < 172) :
    mz_Ct G X y_Deck_moveFirst b_Deck_moveFirst 5 none (r_Deck_moveFirst 0 0) [.ref d, .int x, .ref e] n f (fun v n' F' => v = none ∧ n' = n ∧ (∀ z, z ≠ d → z ≠ a → z ≠ e → z ≠ ea → F' z = f z) ∧ Dk F' d a (sz - mv) K (fun j => c (j + mv)) ∧ Dk F' e ea (si + mv) K (fun j => if j < si then ci j else c (j - si))) := by
  obtain ⟨g, h1, h2, hP⟩ := id hd
  obtain ⟨gi, h3, h4, hPi⟩ := id he
  refine mk_Ct 4 false [some (.ref d), some (.int x), some (.ref e), none, none] (by decide) rfl (by decide) (Nat.le_of_ble_eq_true rfl) rfl ?_
  refine mz_go [2] 12 ?_
  simp only [mz_r0, mk_lit, mk_fin, mk_cat, mk_fit, mk_nar, mk_cls, mk_ty, mk_isr, List.mem_cons, List.not_mem_nil, or_false, or_true, false_or, true_or, Nat.reduceEqDiff, Nat.reduceAdd, Nat.reduceSub, Nat.reduceLT, Nat.reduceLeDiff, ↓reduceIte, if_true, if_false, List.getElem?_cons_zero, List.getElem?_cons_succ, List.set_cons_zero, List.set_cons_succ, List.length_cons, List.length_nil, mz_s1, mz_s2, mz_cl, true_and, and_true, false_and, and_false, List.append_nil, mk_b0, mk_b1, mk_b2, mk_bn, Value.int.injEq, Option.toList_some, Option.toList_none, List.cons_append, List.nil_append, Classical.not_not, Option.some.injEq, reduceCtorEq, ne_eq, not_true_eq_false, not_false_eq_true, false_implies, true_implies, ev_37, ev_0, mz_rl d_Deck_moveFirst_0, mz_rl d_Deck_moveFirst_1, nF_4]
  refine mz_mmax (by simp only [d_Deck_moveFirst, Nat.reduceAdd]) w_max_4 (by decide) (Nat.le_of_ble_eq_true rfl) ?_
  rw [hx]
  refine mz_go [9] 12 ?_
  simp only [mz_r0, mk_lit, mk_fin, mk_cat, mk_fit, mk_nar, mk_cls, mk_ty, mk_isr, List.mem_cons, List.not_mem_nil, or_false, or_true, false_or, true_or, Nat.reduceEqDiff, Nat.reduceAdd, Nat.reduceSub, Nat.reduceLT, Nat.reduceLeDiff, ↓reduceIte, if_true, if_false, List.getElem?_cons_zero, List.getElem?_cons_succ, List.set_cons_zero, List.set_cons_succ, List.length_cons, List.length_nil, mz_s1, mz_s2, mz_cl, true_and, and_true, false_and, and_false, List.append_nil, mk_b0, mk_b1, mk_b2, mk_bn, Value.int.injEq, Option.toList_some, Option.toList_none, List.cons_append, List.nil_append, Classical.not_not, Option.some.injEq, reduceCtorEq, ne_eq, not_true_eq_false, not_false_eq_true, false_implies, true_implies, ev_43, ev_0, ev_42, mz_rl d_Deck_moveFirst_5, mz_rl d_Deck_moveFirst_6, mz_rl d_Deck_moveFirst_7, nF_4]
  have hid : mz_u (mz_u f ea (aQ 6 200 (apd g gi si 0))) e (.inr (4, [.ref ea, .int (nI (si + 0))])) = f := by
    have : apd g gi si 0 = gi := by funext j; unfold apd; rw [if_neg (by omega)]
    rw [this, mz_ui h4, Nat.add_zero, mz_ui h3]
  have := l_Deck_moveFirst1 G X n f (gi := gi) (x := x) (fun v n' F' => v = none ∧ n' = n ∧ (∀ z, z ≠ d → z ≠ a → z ≠ e → z ≠ ea → F' z = f z) ∧ Dk F' d a (sz - mv) K (fun j => c (j + mv)) ∧ Dk F' e ea (si + mv) K (fun j => if j < si then ci j else c (j - si))) h1 h2 hde hdea hae haea hee hP hm hs hsi hC ⟨hlo.2.2.1, hlo.2.2.2⟩ ?_ mv 0 (by omega)
  · rw [hid] at this
    exact this
  · obtain ⟨H, hH⟩ : ∃ H, H = mz_u (mz_u f ea (aQ 6 200 (apd g gi si mv))) e (.inr (4, [.ref ea, .int (nI (si + mv))])) := ⟨_, rfl⟩
    rw [← hH]
    have ho : ∀ z, z ≠ e → z ≠ ea → H z = f z := fun z z1 z2 => by rw [hH, mz_u_n z1, mz_u_n z2]
    have k1 := (ho d hde hdea).trans h1
    have k2 := (ho a hae haea).trans h2
    have kC : ∀ x, x < K → ∃ fs, H (172 + 2 * x) = .inr (2, fs) := fun x hx => by
      obtain ⟨fs, hfs⟩ := hC x hx
      exact ⟨fs, (ho _ (by omega) (by omega)).trans hfs⟩
    refine mz_go [35] 12 ?_
    simp only [mz_r0, mk_lit, mk_fin, mk_cat, mk_fit, mk_nar, mk_cls, mk_ty, mk_isr, List.mem_cons, List.not_mem_nil, or_false, or_true, false_or, true_or, Nat.reduceEqDiff, Nat.reduceAdd, Nat.reduceSub, Nat.reduceLT, Nat.reduceLeDiff, ↓reduceIte, if_true, if_false, List.getElem?_cons_zero, List.getElem?_cons_succ, List.set_cons_zero, List.set_cons_succ, List.length_cons, List.length_nil, mz_s1, mz_s2, mz_cl, true_and, and_true, false_and, and_false, List.append_nil, mk_b0, mk_b1, mk_b2, mk_bn, Value.int.injEq, Option.toList_some, Option.toList_none, List.cons_append, List.nil_append, Classical.not_not, Option.some.injEq, reduceCtorEq, ne_eq, not_true_eq_false, not_false_eq_true, false_implies, true_implies, ev_36, ev_37, ev_56, ev_41, ev_79, ft_4_0, fn_4_0, ev_76, ev_42, mz_rl d_Deck_moveFirst_9, mz_rl d_Deck_moveFirst_11, mz_rl d_Deck_moveFirst_12, mz_rl d_Deck_moveFirst_15, mz_rl d_Deck_moveFirst_16, mz_rl d_Deck_moveFirst_17, mz_rl d_Deck_moveFirst_20, mz_rl d_Deck_moveFirst_22, mz_rl d_Deck_moveFirst_23, mz_rl d_Deck_moveFirst_32, mz_rl d_Deck_moveFirst_33, j_Deck_moveFirst_12, nF_4]
    have e0 : shf g mv mv = g := by funext j; unfold shf; rw [if_neg (by omega)]
    have := l_Deck_moveFirst2 G X n H (x := x) (w2 := some (.ref e)) k1 k2 hP hm hs kC hlo.2.1 (sz - mv) mv (by omega) (by omega)
    rw [e0, mz_ui k2] at this
    refine mz_mono ?_ this
    rintro v n' f' ⟨rfl, rfl, rfl⟩
    refine ⟨rfl, rfl, fun z z1 z2 z3 z4 => by rw [mz_u_n z1, mz_u_n z2, ho z z3 z4], ⟨_, mz_u_s _ _ _, by rw [mz_u_n (Ne.symm hda), mz_u_s], fun j hj => ?_⟩, ⟨apd g gi si mv, ?_, ?_, fun j hj => ?_⟩⟩
    · unfold shf
      rw [if_pos (by omega)]
      exact hP (j + mv) (by omega)
    · rw [mz_u_n (Ne.symm hde), mz_u_n (Ne.symm hae), hH]; exact mz_u_s _ _ _
    · rw [mz_u_n (Ne.symm hdea), mz_u_n (Ne.symm haea), hH, mz_u_n (Ne.symm hee), mz_u_s]
    · unfold apd
      by_cases h : j < si
      · rw [if_neg (by omega)]; simp only [h, if_true]; exact hPi j h
      · rw [if_pos (by omega)]; simp only [h, if_false]; exact hP (j - si) (by omega)
end
section
/-! rows told in order: which of the entries, by a key, those of one key as they come -/
def enP (k : Nat → Nat) (P : Nat → Prop) (N : Nat) (π : Nat → Nat) : Prop := (∀ a, a < N → P (π a)) ∧ (∀ a b, a < b → b < N → ltK k (π a) (π b)) ∧ ∀ i, P i → ∃ a, a < N ∧ π a = i
theorem ltK_ir {k : Nat → Nat} {i : Nat} (h : ltK k i i) : False := by unfold ltK at h; omega
theorem ltK_as {k : Nat → Nat} {i j : Nat} (h : ltK k i j) (h2 : ltK k j i) : False := by unfold ltK at h h2; omega
theorem enP_half {k : Nat → Nat} {P : Nat → Prop} {N M : Nat} {π ρ : Nat → Nat} (h1 : enP k P N π) (h2 : enP k P M ρ) : ∀ a, a < N → a < M ∧ π a = ρ a := by
  intro a
  induction a using Nat.strongRecOn with
  | _ a ih =>
    intro ha
    obtain ⟨b, hb, eb⟩ := h2.2.2 _ (h1.1 a ha)
    have hab : a ≤ b := by
      rcases Nat.lt_or_ge b a with z | z
      · obtain ⟨_, w⟩ := ih b z (by omega)
        have := h1.2.1 b a z ha
        rw [w, eb] at this
        exact (ltK_ir this).elim
      · exact z
    have haM : a < M := by omega
    refine ⟨haM, ?_⟩
    obtain ⟨c, hc, ec⟩ := h1.2.2 _ (h2.1 a haM)
    have hac : a ≤ c := by
      rcases Nat.lt_or_ge c a with z | z
      · obtain ⟨_, w⟩ := ih c z (by omega)
        have := h2.2.1 c a z haM
        rw [← w, ec] at this
        exact (ltK_ir this).elim
      · exact z
    by_cases e1 : b = a
    · subst e1; exact eb.symm
    · by_cases e2 : c = a
      · subst e2; exact ec
      · have q1 := h2.2.1 a b (by omega) hb
        have q2 := h1.2.1 a c (by omega) hc
        rw [eb] at q1
        rw [ec] at q2
        exact (ltK_as q1 q2).elim
theorem enP_uniq {k : Nat → Nat} {P : Nat → Prop} {N M : Nat} {π ρ : Nat → Nat} (h1 : enP k P N π) (h2 : enP k P M ρ) : N = M ∧ ∀ a, a < N → π a = ρ a := by
  have a1 := enP_half h1 h2
  have a2 := enP_half h2 h1
  refine ⟨?_, fun a ha => (a1 a ha).2⟩
  rcases Nat.lt_trichotomy N M with z | z | z
  · have := (a2 N z).1; omega
  · exact z
  · have := (a1 M z).1; omega
theorem enP_iff {k : Nat → Nat} {P Q : Nat → Prop} {N : Nat} {π : Nat → Nat} (h : enP k P N π) (e : ∀ i, P i ↔ Q i) : enP k Q N π := ⟨fun a ha => (e _).mp (h.1 a ha), h.2.1, fun i hi => h.2.2 i ((e i).mpr hi)⟩
theorem enP_enu {k π : Nat → Nat} {m : Nat} (h : enu k m π) : enP k (fun i => i < m) m π := ⟨h.1, h.2, fun _ hi => enu_onto h hi⟩
theorem enP_0 {k : Nat → Nat} {P : Nat → Prop} {π : Nat → Nat} (h : ∀ i, ¬ P i) : enP k P 0 π := ⟨fun a ha => absurd ha (Nat.not_lt_zero _), fun a b _ hb => absurd hb (Nat.not_lt_zero _), fun i hi => absurd hi (h i)⟩
theorem enP_key {k k' : Nat → Nat} {P : Nat → Prop} {N : Nat} {π : Nat → Nat} (h : enP k P N π) (e : ∀ i, P i → k i = k' i) : enP k' P N π := by
  refine ⟨h.1, fun a b hab hb => ?_, h.2.2⟩
  have := h.2.1 a b hab hb
  unfold ltK at this ⊢
  rw [← e _ (h.1 a (by omega)), ← e _ (h.1 b hb)]
  exact this
/-- one more, behind all -/
theorem enP_app {k : Nat → Nat} {P : Nat → Prop} {N e : Nat} {π : Nat → Nat} (h : enP k P N π) (he : ∀ x, P x → ltK k x e) : enP k (fun i => P i ∨ i = e) (N + 1) (va_up π N e) := by
  refine ⟨fun a ha => ?_, fun a b hab hb => ?_, fun i hi => ?_⟩
  · unfold va_up
    by_cases z : a = N
    · rw [if_pos z]; exact Or.inr rfl
    · rw [if_neg z]; exact Or.inl (h.1 a (by omega))
  · unfold va_up
    rw [if_neg (show a ≠ N by omega)]
    by_cases z : b = N
    · rw [if_pos z]; exact he _ (h.1 a (by omega))
    · rw [if_neg z]; exact h.2.1 a b hab (by omega)
  · rcases hi with hi | hi
    · obtain ⟨a, ha, ea⟩ := h.2.2 i hi
      refine ⟨a, by omega, ?_⟩
      unfold va_up
      rw [if_neg (show a ≠ N by omega)]; exact ea
    · refine ⟨N, by omega, ?_⟩
      unfold va_up
      rw [if_pos rfl]; exact hi.symm
/-- one more, at its place -/
def insR (r : Nat → Nat) (p x : Nat) : Nat → Nat := fun j => if j < p then r j else if j = p then x else r (j - 1)
theorem enP_le {k : Nat → Nat} {P : Nat → Prop} {N a b : Nat} {π : Nat → Nat} (h : enP k P N π) (hab : a ≤ b) (hb : b < N) : k (π a) ≤ k (π b) := by
  by_cases e : a = b
  · rw [e]; exact Nat.le_refl _
  · have := h.2.1 a b (by omega) hb
    unfold ltK at this
    omega
theorem enP_ins {k : Nat → Nat} {P : Nat → Prop} {N e p : Nat} {π : Nat → Nat} (h : enP k P N π) (hi : ∀ i, P i → i < e) (hp : p ≤ N) (h1 : p = 0 ∨ k (π (p - 1)) ≤ k e) (h2 : ∀ j, p ≤ j → j < N → k e < k (π j)) : enP k (fun i => P i ∨ i = e) (N + 1) (insR π p e) := by
  have lo : ∀ a, a < p → ltK k (π a) e := by
    intro a ha
    have q1 := enP_le h (show a ≤ p - 1 by omega) (by omega)
    have q2 := hi _ (h.1 a (by omega))
    unfold ltK
    rcases h1 with z | z
    · omega
    · omega
  have hi2 : ∀ a, p ≤ a → a < N → ltK k e (π a) := fun a h3 h4 => Or.inl (h2 a h3 h4)
  refine ⟨fun a ha => ?_, fun a b hab hb => ?_, fun i hi' => ?_⟩
  · unfold insR
    by_cases z : a < p
    · rw [if_pos z]; exact Or.inl (h.1 a (by omega))
    · rw [if_neg z]
      by_cases z2 : a = p
      · rw [if_pos z2]; exact Or.inr rfl
      · rw [if_neg z2]; exact Or.inl (h.1 (a - 1) (by omega))
  · unfold insR
    by_cases z : a < p
    · rw [if_pos z]
      by_cases y : b < p
      · rw [if_pos y]; exact h.2.1 a b hab (by omega)
      · rw [if_neg y]
        by_cases y2 : b = p
        · rw [if_pos y2]; exact lo a z
        · rw [if_neg y2]; exact h.2.1 a (b - 1) (by omega) (by omega)
    · rw [if_neg z, if_neg (show ¬ b < p by omega), if_neg (show ¬ b = p by omega)]
      by_cases z2 : a = p
      · rw [if_pos z2]; exact hi2 (b - 1) (by omega) (by omega)
      · rw [if_neg z2]; exact h.2.1 (a - 1) (b - 1) (by omega) (by omega)
  · rcases hi' with hi' | hi'
    · obtain ⟨a, ha, ea⟩ := h.2.2 i hi'
      by_cases z : a < p
      · refine ⟨a, by omega, ?_⟩
        unfold insR; rw [if_pos z]; exact ea
      · refine ⟨a + 1, by omega, ?_⟩
        unfold insR; rw [if_neg (by omega), if_neg (by omega)]; exact ea
    · refine ⟨p, by omega, ?_⟩
      unfold insR; rw [if_neg (by omega), if_pos rfl]; exact hi'.symm
/-! two decks, one behind the other -/
def ent (c co : Nat → Nat) (sz : Nat) (x : Nat) : Nat := if x < sz then c x else co (x - sz)
theorem ent_l {c co : Nat → Nat} {sz x : Nat} (h : x < sz) : ent c co sz x = c x := if_pos h
theorem ent_r {c co : Nat → Nat} {sz x : Nat} : ent c co sz (sz + x) = co x := by
  unfold ent; rw [if_neg (by omega)]; congr 1; omega
theorem cmpC_le {s : Nat → Nat → Nat} {fr to x y : Nat} (hx : ∀ j, j < 16 → sg (s x j)) (hy : ∀ j, j < 16 → sg (s y j)) (hf : fr ≤ to) (ht : to < 16) : cmpC s fr to x y ≤ 0 ↔ keyC s fr to x ≤ keyC s fr to y := by
  have w := cmpC_key hx hy hf ht
  have e0 : (0 : Int32).toInt = 0 := rfl
  have e1 : (nI 0).toInt = 0 := rfl
  rw [mk_lt, mk_eq, e0, e1] at w
  rw [mk_le, e0]
  constructor
  · intro z
    by_cases q : (cmpC s fr to x y).toInt = 0
    · exact Nat.le_of_eq (w.2.mp q)
    · exact Nat.le_of_lt (w.1.mp (by omega))
  · intro z
    rcases Nat.lt_or_eq_of_le z with q | q
    · have := w.1.mpr q; omega
    · have := w.2.mpr q; omega
theorem srt_le {s : Nat → Nat → Nat} {fr to sz : Nat} {c : Nat → Nat} (hf : fr ≤ to) (ht : to < 16) (hs : ∀ j, j < sz → ∀ k, k < 16 → sg (s (c j) k)) (h : srtB s fr to c 1 (sz - 1) = true) {a b : Nat} (hab : a ≤ b) (hb : b < sz) : keyC s fr to (c a) ≤ keyC s fr to (c b) := enP_le (k := fun i => keyC s fr to (c i)) (π := fun i => i) (enP_enu (srtB_enu hf ht hs h)) hab hb
/-- the class's merging tells both decks in order -/
theorem mgT_enP {s : Nat → Nat → Nat} {fr to sz so : Nat} {c co : Nat → Nat} (hf : fr ≤ to) (ht : to < 16) (hs : ∀ j, j < sz → ∀ k, k < 16 → sg (s (c j) k)) (hso : ∀ j, j < so → ∀ k, k < 16 → sg (s (co j) k)) (h1 : srtB s fr to c 1 (sz - 1) = true) (h2 : srtB s fr to co 1 (so - 1) = true) :
    ∀ k, k ≤ sz + so → ∃ i j cr π, mgT s fr to c co sz so k = (i, j, cr) ∧ i + j = k ∧ i ≤ sz ∧ j ≤ so ∧ (∀ a, a < i → ∀ b, j ≤ b → b < so → keyC s fr to (c a) ≤ keyC s fr to (co b)) ∧ (∀ b, b < j → ∀ a, i ≤ a → a < sz → keyC s fr to (co b) < keyC s fr to (c a)) ∧ (∀ a, a < k → cr a = ent c co sz (π a)) ∧ enP (fun x => keyC s fr to (ent c co sz x)) (fun x => x < i ∨ sz ≤ x ∧ x < sz + j) k π := by
  intro k
  induction k with
  | zero => intro _; exact ⟨0, 0, c, id, rfl, rfl, Nat.zero_le _, Nat.zero_le _, fun a ha => absurd ha (Nat.not_lt_zero _), fun b hb => absurd hb (Nat.not_lt_zero _), fun a ha => absurd ha (Nat.not_lt_zero _), enP_0 (fun i => by omega)⟩
  | succ k ih =>
    intro hk
    obtain ⟨i, j, cr, π, e, hij, hi, hj, i1, i2, hcr, hen⟩ := ih (by omega)
    have rowU : ∀ x y, y = ent c co sz x → ∀ a, a < k + 1 → va_up cr k y a = ent c co sz (va_up π k x a) := by
      intro x y hy a ha
      unfold va_up
      by_cases z : a = k
      · rw [if_pos z, if_pos z]; exact hy
      · rw [if_neg z, if_neg z]; exact hcr a (by omega)
    by_cases ho : ordK s fr to c co sz so i j ≤ 0
    · have hi' := ordK_le ho (by omega)
      have hle : ∀ b, j ≤ b → b < so → keyC s fr to (c i) ≤ keyC s fr to (co b) := by
        intro b hjb hb
        unfold ordK at ho
        rw [if_neg (by omega), if_neg (by omega)] at ho
        have := (cmpC_le (hs i hi') (hso j (by omega)) hf ht).mp ho
        exact Nat.le_trans this (srt_le hf ht hso h2 hjb hb)
      refine ⟨i + 1, j, _, va_up π k i, mgT_l e ho, by omega, by omega, hj, fun a ha b hjb hb => ?_, fun b hb a h3 h4 => i2 b hb a (by omega) h4, rowU i (c i) (ent_l hi').symm, enP_iff (enP_app hen (fun x hx => ?_)) (fun x => by omega)⟩
      · by_cases z : a = i
        · subst z; exact hle b hjb hb
        · exact i1 a (by omega) b hjb hb
      · show ltK (fun x => keyC s fr to (ent c co sz x)) x i
        unfold ltK
        show keyC s fr to (ent c co sz x) < keyC s fr to (ent c co sz i) ∨ keyC s fr to (ent c co sz x) = keyC s fr to (ent c co sz i) ∧ x < i
        rw [ent_l hi']
        rcases hx with hx | ⟨hx, hx2⟩
        · rw [ent_l (by omega)]
          have := srt_le hf ht hs h1 (show x ≤ i by omega) hi'
          omega
        · obtain ⟨b, rfl⟩ : ∃ b, x = sz + b := ⟨x - sz, by omega⟩
          rw [ent_r]
          exact Or.inl (i2 b (by omega) i (Nat.le_refl _) hi')
    · have hj' := ordK_gt ho
      have hlt : ∀ a, i ≤ a → a < sz → keyC s fr to (co j) < keyC s fr to (c a) := by
        intro a hia ha
        unfold ordK at ho
        rw [if_neg (by omega), if_neg (by omega)] at ho
        have w := cmpC_le (hs i (by omega)) (hso j hj') hf ht
        have : keyC s fr to (co j) < keyC s fr to (c i) := by
          rcases Nat.lt_or_ge (keyC s fr to (co j)) (keyC s fr to (c i)) with z | z
          · exact z
          · exact absurd (w.mpr z) ho
        exact Nat.lt_of_lt_of_le this (srt_le hf ht hs h1 hia ha)
      refine ⟨i, j + 1, _, va_up π k (sz + j), mgT_r e ho, by omega, hi, by omega, fun a ha b hjb hb => i1 a ha b (by omega) hb, fun b hb a h3 h4 => ?_, rowU (sz + j) (co j) ent_r.symm, enP_iff (enP_app hen (fun x hx => ?_)) (fun x => by omega)⟩
      · by_cases z : b = j
        · subst z; exact hlt a h3 h4
        · exact i2 b (by omega) a h3 h4
      · unfold ltK
        show keyC s fr to (ent c co sz x) < keyC s fr to (ent c co sz (sz + j)) ∨ keyC s fr to (ent c co sz x) = keyC s fr to (ent c co sz (sz + j)) ∧ x < sz + j
        rw [ent_r]
        rcases hx with hx | ⟨hx, hx2⟩
        · rw [ent_l (by omega)]
          have := i1 x hx j (Nat.le_refl _) hj'
          omega
        · obtain ⟨b, rfl⟩ : ∃ b, x = sz + b := ⟨x - sz, by omega⟩
          rw [ent_r]
          have := srt_le hf ht hso h2 (show b ≤ j by omega) hj'
          omega
/-- which of the deck's, and of the other's, find one like them -/
def slA (s : Nat → Nat → Nat) (fr to : Nat) (c co : Nat → Nat) (so x : Nat) : Prop := ∃ b, b < so ∧ keyC s fr to (co b) = keyC s fr to (c x)
def id0 : Nat → Nat := fun _ => 0
/-- the three rows of a matching that has come to i and j -/
def mtE (s : Nat → Nat → Nat) (fr to : Nat) (c co ci : Nat → Nat) (sz so si i j : Nat) (M : mtM) : Prop := ∃ π1 π2 π3 N3, enP id0 (fun x => x < i ∧ ¬ slA s fr to c co so x) M.1.1 π1 ∧ (∀ a, a < M.1.1 → M.1.2 a = c (π1 a)) ∧ enP id0 (fun x => x < j ∧ ¬ slA s fr to co c sz x) M.2.1.1 π2 ∧ (∀ a, a < M.2.1.1 → M.2.1.2 a = co (π2 a)) ∧ M.2.2.1 = si + N3 ∧ enP (fun x => keyC s fr to (ent c co sz x)) (fun x => x < i ∧ slA s fr to c co so x ∨ sz ≤ x ∧ x < sz + j ∧ slA s fr to co c sz (x - sz)) N3 π3 ∧ (∀ a, a < si → M.2.2.2 a = ci a) ∧ ∀ a, a < N3 → M.2.2.2 (si + a) = ent c co sz (π3 a)
theorem mtP_row {q : Nat × (Nat → Nat)} {x y : Nat} {r π : Nat → Nat} (h : ∀ a, a < q.1 → q.2 a = r (π a)) (e : y = r x) : ∀ a, a < (mtP q y).1 → (mtP q y).2 a = r (va_up π q.1 x a) := by
  intro a ha
  have ha' : a < q.1 + 1 := ha
  show va_up q.2 q.1 y a = _
  unfold va_up
  by_cases z : a = q.1
  · rw [if_pos z, if_pos z]; exact e
  · rw [if_neg z, if_neg z]; exact h a (by omega)
theorem mtF_enP {s : Nat → Nat → Nat} {fr to sz so si : Nat} {c co ci : Nat → Nat} (hf : fr ≤ to) (ht : to < 16) (hs : ∀ j, j < sz → ∀ k, k < 16 → sg (s (c j) k)) (hso : ∀ j, j < so → ∀ k, k < 16 → sg (s (co j) k)) (h1 : srtB s fr to c 1 (sz - 1) = true) (h2 : srtB s fr to co 1 (so - 1) = true) :
    ∀ m i j lt M, i + j + m = sz + so → i ≤ sz → j ≤ so → (∀ a, a < i → ∀ b, j ≤ b → b < so → keyC s fr to (c a) ≤ keyC s fr to (co b)) → (∀ b, b < j → ∀ a, i ≤ a → a < sz → keyC s fr to (co b) < keyC s fr to (c a)) → (∀ x, lt = some x → ∃ a, a < i ∧ x = c a) → (∀ a, a < i → slA s fr to c co so a → ∃ x, lt = some x ∧ keyC s fr to (c a) ≤ keyC s fr to x) → mtE s fr to c co ci sz so si i j M → mtE s fr to c co ci sz so si sz so (mtF s fr to c co sz so m i j lt M) := by
  have z00 : (0 : Int32) = nI 0 := rfl
  have e0 : (0 : Int32).toInt = 0 := rfl
  intro m
  induction m with
  | zero =>
    intro i j lt M hm hi hj i1 i2 i3 i4 hE
    have ei : i = sz := by omega
    have ej : j = so := by omega
    subst ei ej
    exact hE
  | succ m ih =>
    intro i j lt M hm hi hj i1 i2 i3 i4 hE
    obtain ⟨π1, π2, π3, N3, a1, a2, b1, b2, c0, c1, c2, c3⟩ := hE
    unfold mtF
    by_cases ho : (0 : Int32) < ordK s fr to c co sz so i j
    · rw [if_pos ho]
      have ho' : ¬ ordK s fr to c co sz so i j ≤ 0 := fun z => by rw [mk_le] at z; rw [mk_lt] at ho; omega
      have hj' := ordK_gt ho'
      have hlt : ∀ a, i ≤ a → a < sz → keyC s fr to (co j) < keyC s fr to (c a) := by
        intro a hia ha
        unfold ordK at ho'
        rw [if_neg (by omega), if_neg (by omega)] at ho'
        have w := cmpC_le (hs i (by omega)) (hso j hj') hf ht
        have : keyC s fr to (co j) < keyC s fr to (c i) := by
          rcases Nat.lt_or_ge (keyC s fr to (co j)) (keyC s fr to (c i)) with z | z
          · exact z
          · exact absurd (w.mpr z) ho'
        exact Nat.lt_of_lt_of_le this (srt_le hf ht hs h1 hia ha)
      have n1 : ∀ a, a < i → ∀ b, j + 1 ≤ b → b < so → keyC s fr to (c a) ≤ keyC s fr to (co b) := fun a ha b hjb hb => i1 a ha b (by omega) hb
      have n2 : ∀ b, b < j + 1 → ∀ a, i ≤ a → a < sz → keyC s fr to (co b) < keyC s fr to (c a) := fun b hb a h3 h4 => by
        by_cases z : b = j
        · subst z; exact hlt a h3 h4
        · exact i2 b (by omega) a h3 h4
      -- is the other's card like one of the deck's
      have self : slA s fr to co c sz j ↔ ∃ x, lt = some x ∧ keyC s fr to (co j) = keyC s fr to x := by
        constructor
        · rintro ⟨a, ha, ea⟩
          have hai : a < i := by
            rcases Nat.lt_or_ge a i with z | z
            · exact z
            · have := hlt a z ha; omega
          obtain ⟨x, hx, hxk⟩ := i4 a hai ⟨j, hj', ea.symm⟩
          obtain ⟨a', ha', ex⟩ := i3 x hx
          have := i1 a' ha' j (Nat.le_refl _) hj'
          rw [← ex] at this
          exact ⟨x, hx, by omega⟩
        · rintro ⟨x, hx, hxk⟩
          obtain ⟨a', ha', ex⟩ := i3 x hx
          exact ⟨a', by omega, by rw [← ex]; exact hxk.symm⟩
      have toO : ¬ slA s fr to co c sz j → mtE s fr to c co ci sz so si i (j + 1) (M.1, mtP M.2.1 (co j), M.2.2) := by
        intro hn
        refine ⟨π1, va_up π2 M.2.1.1 j, π3, N3, a1, a2, enP_iff (enP_app b1 (fun x hx => Or.inr ⟨rfl, hx.1⟩)) (fun x => ?_), mtP_row b2 rfl, c0, enP_iff c1 (fun x => ?_), c2, c3⟩
        · constructor
          · rintro (z | rfl)
            · exact ⟨by omega, z.2⟩
            · exact ⟨by omega, hn⟩
          · rintro ⟨z1, z2⟩
            by_cases e : x = j
            · exact Or.inr e
            · exact Or.inl ⟨by omega, z2⟩
        · constructor
          · rintro (z | z)
            · exact Or.inl z
            · exact Or.inr ⟨z.1, by omega, z.2.2⟩
          · rintro (z | ⟨z1, z2, z3⟩)
            · exact Or.inl z
            · by_cases e : x = sz + j
              · subst e
                rw [show sz + j - sz = j by omega] at z3
                exact absurd z3 hn
              · exact Or.inr ⟨z1, by omega, z3⟩
      have toI : slA s fr to co c sz j → mtE s fr to c co ci sz so si i (j + 1) (M.1, M.2.1, mtP M.2.2 (co j)) := by
        intro hn
        refine ⟨π1, π2, va_up π3 N3 (sz + j), N3 + 1, a1, a2, enP_iff b1 (fun x => ?_), b2, by show M.2.2.1 + 1 = _; omega, enP_iff (enP_app c1 (fun x hx => ?_)) (fun x => ?_), fun a ha => ?_, fun a ha => ?_⟩
        · constructor
          · rintro ⟨z1, z2⟩; exact ⟨by omega, z2⟩
          · rintro ⟨z1, z2⟩
            by_cases e : x = j
            · subst e; exact absurd hn z2
            · exact ⟨by omega, z2⟩
        · unfold ltK
          show keyC s fr to (ent c co sz x) < keyC s fr to (ent c co sz (sz + j)) ∨ keyC s fr to (ent c co sz x) = keyC s fr to (ent c co sz (sz + j)) ∧ x < sz + j
          rw [ent_r]
          rcases hx with ⟨hx, _⟩ | ⟨hx, hx2, _⟩
          · rw [ent_l (by omega)]
            have := i1 x hx j (Nat.le_refl _) hj'
            omega
          · obtain ⟨b, rfl⟩ : ∃ b, x = sz + b := ⟨x - sz, by omega⟩
            rw [ent_r]
            have := srt_le hf ht hso h2 (show b ≤ j by omega) hj'
            omega
        · constructor
          · rintro ((z | z) | rfl)
            · exact Or.inl z
            · exact Or.inr ⟨z.1, by omega, z.2.2⟩
            · exact Or.inr ⟨by omega, by omega, by rw [show sz + j - sz = j by omega]; exact hn⟩
          · rintro (z | ⟨z1, z2, z3⟩)
            · exact Or.inl (Or.inl z)
            · by_cases e : x = sz + j
              · exact Or.inr e
              · exact Or.inl (Or.inr ⟨z1, by omega, z3⟩)
        · show va_up M.2.2.2 M.2.2.1 (co j) a = _
          rw [va_up_ne _ _ (by omega)]; exact c2 a ha
        · show va_up M.2.2.2 M.2.2.1 (co j) (si + a) = _
          by_cases e : a = N3
          · subst e; rw [c0, va_up_self, va_up_self, ent_r]
          · rw [va_up_ne _ _ (by omega), va_up_ne _ _ e]; exact c3 a (by omega)
      cases lt with
      | none =>
        refine ih i (j + 1) none _ (by omega) hi (by omega) n1 n2 i3 i4 (toO (fun q => ?_))
        obtain ⟨x, hx, _⟩ := self.mp q
        cases hx
      | some x =>
        obtain ⟨a', ha', ex⟩ := i3 x rfl
        have w := (cmpC_key (hso j hj') (by rw [ex]; exact hs a' (by omega)) hf ht (x := co j) (y := x)).2
        simp only []
        by_cases q : cmpC s fr to (co j) x = 0
        · rw [if_pos q]
          exact ih i (j + 1) (some x) _ (by omega) hi (by omega) n1 n2 i3 i4 (toI (self.mpr ⟨x, rfl, w.mp q⟩))
        · rw [if_neg q]
          refine ih i (j + 1) (some x) _ (by omega) hi (by omega) n1 n2 i3 i4 (toO (fun q2 => q ?_))
          obtain ⟨x', hx', e'⟩ := self.mp q2
          cases hx'
          exact w.mpr e'
    · rw [if_neg ho]
      have ho' : ordK s fr to c co sz so i j ≤ 0 := by rw [mk_le]; rw [mk_lt] at ho; omega
      have hi' := ordK_le ho' (by omega)
      have hle : ∀ b, j ≤ b → b < so → keyC s fr to (c i) ≤ keyC s fr to (co b) := by
        intro b hjb hb
        unfold ordK at ho'
        rw [if_neg (by omega), if_neg (by omega)] at ho'
        have := (cmpC_le (hs i hi') (hso j (by omega)) hf ht).mp ho'
        exact Nat.le_trans this (srt_le hf ht hso h2 hjb hb)
      have n1 : ∀ a, a < i + 1 → ∀ b, j ≤ b → b < so → keyC s fr to (c a) ≤ keyC s fr to (co b) := fun a ha b hjb hb => by
        by_cases z : a = i
        · subst z; exact hle b hjb hb
        · exact i1 a (by omega) b hjb hb
      have n2 : ∀ b, b < j → ∀ a, i + 1 ≤ a → a < sz → keyC s fr to (co b) < keyC s fr to (c a) := fun b hb a h3 h4 => i2 b hb a (by omega) h4
      have self : slA s fr to c co so i ↔ ordK s fr to c co sz so i j = 0 := by
        constructor
        · rintro ⟨b, hb, eb⟩
          have hjb : j ≤ b := by
            rcases Nat.lt_or_ge b j with z | z
            · have := i2 b z i (Nat.le_refl _) hi'; omega
            · exact z
          have hjs : j < so := by omega
          unfold ordK
          rw [if_neg (by omega), if_neg (by omega)]
          refine (cmpC_key (hs i hi') (hso j hjs) hf ht).2.mpr ?_
          have q1 := hle j (Nat.le_refl _) hjs
          have q2 := srt_le hf ht hso h2 hjb hb
          omega
        · intro z
          unfold ordK at z
          by_cases q1 : so ≤ j
          · rw [if_pos q1] at z; exact absurd z (by decide)
          · rw [if_neg q1, if_neg (by omega)] at z
            exact ⟨j, by omega, ((cmpC_key (hs i hi') (hso j (by omega)) hf ht).2.mp z).symm⟩
      have low : ∀ x, (x < i ∧ slA s fr to c co so x ∨ sz ≤ x ∧ x < sz + j ∧ slA s fr to co c sz (x - sz)) → ltK (fun x => keyC s fr to (ent c co sz x)) x i := by
        intro x hx
        unfold ltK
        show keyC s fr to (ent c co sz x) < keyC s fr to (ent c co sz i) ∨ keyC s fr to (ent c co sz x) = keyC s fr to (ent c co sz i) ∧ x < i
        rw [ent_l hi']
        rcases hx with ⟨hx, _⟩ | ⟨hx, hx2, _⟩
        · rw [ent_l (by omega)]
          have := srt_le hf ht hs h1 (show x ≤ i by omega) hi'
          omega
        · obtain ⟨b, rfl⟩ : ∃ b, x = sz + b := ⟨x - sz, by omega⟩
          rw [ent_r]
          exact Or.inl (i2 b (by omega) i (Nat.le_refl _) hi')
      by_cases h0 : ordK s fr to c co sz so i j = 0
      · rw [if_pos h0]
        have hn := self.mpr h0
        refine ih (i + 1) j (some (c i)) _ (by omega) (by omega) hj n1 n2 (fun x hx => ⟨i, by omega, by cases hx; rfl⟩) (fun a ha _ => ⟨c i, rfl, srt_le hf ht hs h1 (by omega) hi'⟩) ?_
        refine ⟨π1, π2, va_up π3 N3 i, N3 + 1, enP_iff a1 (fun x => ?_), a2, b1, b2, by show M.2.2.1 + 1 = _; omega, enP_iff (enP_app c1 low) (fun x => ?_), fun a ha => ?_, fun a ha => ?_⟩
        · constructor
          · rintro ⟨z1, z2⟩; exact ⟨by omega, z2⟩
          · rintro ⟨z1, z2⟩
            by_cases e : x = i
            · subst e; exact absurd hn z2
            · exact ⟨by omega, z2⟩
        · constructor
          · rintro ((z | z) | rfl)
            · exact Or.inl ⟨by omega, z.2⟩
            · exact Or.inr z
            · exact Or.inl ⟨by omega, hn⟩
          · rintro (⟨z1, z2⟩ | z)
            · by_cases e : x = i
              · exact Or.inr e
              · exact Or.inl (Or.inl ⟨by omega, z2⟩)
            · exact Or.inl (Or.inr z)
        · show va_up M.2.2.2 M.2.2.1 (c i) a = _
          rw [va_up_ne _ _ (by omega)]; exact c2 a ha
        · show va_up M.2.2.2 M.2.2.1 (c i) (si + a) = _
          by_cases e : a = N3
          · subst e; rw [c0, va_up_self, va_up_self, ent_l hi']
          · rw [va_up_ne _ _ (by omega), va_up_ne _ _ e]; exact c3 a (by omega)
      · rw [if_neg h0]
        have hn : ¬ slA s fr to c co so i := fun z => h0 (self.mp z)
        refine ih (i + 1) j lt _ (by omega) (by omega) hj n1 n2 (fun x hx => by
          obtain ⟨a, ha, e⟩ := i3 x hx
          exact ⟨a, by omega, e⟩) (fun a ha hsl => by
          by_cases e : a = i
          · subst e; exact absurd hsl hn
          · exact i4 a (by omega) hsl) ?_
        refine ⟨va_up π1 M.1.1 i, π2, π3, N3, enP_iff (enP_app a1 (fun x hx => Or.inr ⟨rfl, hx.1⟩)) (fun x => ?_), mtP_row a2 rfl, b1, b2, c0, enP_iff c1 (fun x => ?_), c2, c3⟩
        · constructor
          · rintro (z | rfl)
            · exact ⟨by omega, z.2⟩
            · exact ⟨by omega, hn⟩
          · rintro ⟨z1, z2⟩
            by_cases e : x = i
            · exact Or.inr e
            · exact Or.inl ⟨by omega, z2⟩
        · constructor
          · rintro (z | z)
            · exact Or.inl ⟨by omega, z.2⟩
            · exact Or.inr z
          · rintro (⟨z1, z2⟩ | z)
            · by_cases e : x = i
              · subst e; exact absurd z2 hn
              · exact Or.inl ⟨by omega, z2⟩
            · exact Or.inr z
theorem mtF_sum {s : Nat → Nat → Nat} {fr to sz so : Nat} {c co : Nat → Nat} : ∀ m i j lt M, (mtF s fr to c co sz so m i j lt M).1.1 + (mtF s fr to c co sz so m i j lt M).2.1.1 + (mtF s fr to c co sz so m i j lt M).2.2.1 = M.1.1 + M.2.1.1 + M.2.2.1 + m := by
  intro m
  induction m with
  | zero => intro i j lt M; rfl
  | succ m ih =>
    intro i j lt M
    unfold mtF
    by_cases ho : (0 : Int32) < ordK s fr to c co sz so i j
    · rw [if_pos ho]
      cases lt with
      | none =>
        simp only []
        rw [ih]
        show M.1.1 + (M.2.1.1 + 1) + M.2.2.1 + m = _
        omega
      | some x =>
        simp only []
        by_cases q : cmpC s fr to (co j) x = 0
        · rw [if_pos q, ih]
          show M.1.1 + M.2.1.1 + (M.2.2.1 + 1) + m = _
          omega
        · rw [if_neg q, ih]
          show M.1.1 + (M.2.1.1 + 1) + M.2.2.1 + m = _
          omega
    · rw [if_neg ho]
      by_cases h0 : ordK s fr to c co sz so i j = 0
      · rw [if_pos h0, ih]
        show M.1.1 + M.2.1.1 + (M.2.2.1 + 1) + m = _
        omega
      · rw [if_neg h0, ih]
        show M.1.1 + 1 + M.2.1.1 + M.2.2.1 + m = _
        omega
/-- the three rows of a whole matching -/
theorem mtF_all {s : Nat → Nat → Nat} {fr to sz so si : Nat} {c co ci c1 c2 : Nat → Nat} (hf : fr ≤ to) (ht : to < 16) (hs : ∀ j, j < sz → ∀ k, k < 16 → sg (s (c j) k)) (hso : ∀ j, j < so → ∀ k, k < 16 → sg (s (co j) k)) (h1 : srtB s fr to c 1 (sz - 1) = true) (h2 : srtB s fr to co 1 (so - 1) = true) : mtE s fr to c co ci sz so si sz so (mtF s fr to c co sz so (sz + so) 0 0 none ((0, c1), (0, c2), (si, ci))) := by
  refine mtF_enP hf ht hs hso h1 h2 (sz + so) 0 0 none _ (by omega) (Nat.zero_le _) (Nat.zero_le _) (fun a ha => absurd ha (Nat.not_lt_zero _)) (fun b hb => absurd hb (Nat.not_lt_zero _)) (fun x hx => by cases hx) (fun a ha => absurd ha (Nat.not_lt_zero _)) ?_
  exact ⟨id, id, id, 0, enP_0 (fun i q => by omega), fun a ha => absurd ha (Nat.not_lt_zero _), enP_0 (fun i q => by omega), fun a ha => absurd ha (Nat.not_lt_zero _), rfl, enP_0 (fun i q => by omega), fun a _ => rfl, fun a ha => absurd ha (Nat.not_lt_zero _)⟩
theorem mt_cnt {s : Nat → Nat → Nat} {fr to sz so : Nat} {c co : Nat → Nat} (hf : fr ≤ to) (ht : to < 16) (hs : ∀ j, j < sz → ∀ k, k < 16 → sg (s (c j) k)) (hso : ∀ j, j < so → ∀ k, k < 16 → sg (s (co j) k)) (h1 : srtB s fr to c 1 (sz - 1) = true) (h2 : srtB s fr to co 1 (so - 1) = true) {N1 N2 N3 : Nat} {ρ1 ρ2 ρ3 : Nat → Nat} (r1 : enP id0 (fun x => x < sz ∧ ¬ slA s fr to c co so x) N1 ρ1) (r2 : enP id0 (fun x => x < so ∧ ¬ slA s fr to co c sz x) N2 ρ2) (r3 : enP (fun x => keyC s fr to (ent c co sz x)) (fun x => x < sz ∧ slA s fr to c co so x ∨ sz ≤ x ∧ x < sz + so ∧ slA s fr to co c sz (x - sz)) N3 ρ3) : N1 + N2 + N3 = sz + so := by
  obtain ⟨π1, π2, π3, M3, a1, a2, b1, b2, c0, c1, c2, c3⟩ := mtF_all (si := 0) (ci := c) (c1 := c) (c2 := c) hf ht hs hso h1 h2
  have hsum := mtF_sum (s := s) (fr := fr) (to := to) (sz := sz) (so := so) (c := c) (co := co) (sz + so) 0 0 none ((0, c), (0, c), (0, c))
  have e1 := (enP_uniq r1 a1).1
  have e2 := (enP_uniq r2 b1).1
  have e3 := (enP_uniq r3 c1).1
  have hsum' : _ = 0 + 0 + 0 + (sz + so) := hsum
  rw [c0, ← e1, ← e2, ← e3] at hsum'
  omega
end
section
/-! the tabulator's pure side: what both programs do, step by step -/
theorem arN_sg {F T t : Nat → Nat} {L : Nat → Nat} {w p : Nat} (hok : BdOk w F T L) (ht : ∀ j, j < 16 → sg (t j)) : arN F T t p w = -1 ∨ arN F T t p w = -2 ∨ ∃ c, sg c ∧ arN F T t p w = nI c := arN_v (fun k hk h32 => sgF_ok (hok.2.1 k hk).1 h32 ht) w (Nat.le_refl _)
/-- what a counter's wheel shows -/
def whN (v k : Nat) : Nat := if v / 10 ^ k = 0 ∧ 0 < k then 32 else 48 + v / 10 ^ k % 10
theorem whN_sg (v k : Nat) : sg (whN v k) := by
  unfold whN sg
  by_cases h : v / 10 ^ k = 0 ∧ 0 < k
  · rw [if_pos h]; exact Or.inl rfl
  · rw [if_neg h]; omega
theorem whl_n {v k : Nat} (hv : v < 2 ^ 31) (hk : k < 6) : whl (nI v) k = nI (whN v k) := by
  have hp := pw10 k (by omega)
  have hpos : 0 < 10 ^ k := Nat.pos_of_ne_zero (by simp)
  have hd : v / 10 ^ k < 2 ^ 31 := Nat.lt_of_le_of_lt (Nat.div_le_self _ _) hv
  have e0 : nI (v / 10 ^ k) = 0 ↔ v / 10 ^ k = 0 := nI_eq hd (by decide)
  unfold whl whN
  rw [pwN k (by omega), pk_div hv hpos hp]
  by_cases h : v / 10 ^ k = 0 ∧ 0 < k
  · rw [if_pos h, if_pos ⟨e0.mpr h.1, h.2⟩]
  · rw [if_neg h, if_neg (fun z => h ⟨e0.mp z.1, z.2⟩), pk_rem hd (by decide) (by decide), nI_add]
/-- what comes of a level's totals to a jack -/
def arX (F T L cn : Nat → Nat) (lv to : Nat) : Nat → Int32
  | 0 => -1
  | k + 1 => if 32 ≤ F k ∧ T k = to ∧ L ((F k - 32) / 6) = lv then arS (arX F T L cn lv to k) (nI (whN (cn ((F k - 32) / 6)) ((F k - 32) % 6))) else arX F T L cn lv to k
theorem arX_v {F T L cn : Nat → Nat} {lv to : Nat} : ∀ k, arX F T L cn lv to k = -1 ∨ arX F T L cn lv to k = -2 ∨ ∃ c, sg c ∧ arX F T L cn lv to k = nI c := by
  intro k
  induction k with
  | zero => exact Or.inl rfl
  | succ k q =>
    unfold arX
    by_cases h : 32 ≤ F k ∧ T k = to ∧ L ((F k - 32) / 6) = lv
    · have g := whN_sg (cn ((F k - 32) / 6)) ((F k - 32) % 6)
      rw [if_pos h, arS_n g]
      by_cases e : nI (whN (cn ((F k - 32) / 6)) ((F k - 32) % 6)) = arX F T L cn lv to k
      · rw [if_pos e]; exact q
      · rw [if_neg e]
        by_cases e2 : arX F T L cn lv to k = -1
        · rw [if_pos e2]; exact Or.inr (Or.inr ⟨_, g, rfl⟩)
        · rw [if_neg e2]; exact Or.inr (Or.inl rfl)
    · rw [if_neg h]; exact q
/-- only the counters of the level count -/
theorem arX_c {F T L cn cm : Nat → Nat} {lv to w : Nat} (hF : ∀ k, k < w → F k < 56) (h : ∀ c, c < 4 → L c = lv → cn c = cm c) : ∀ k, k ≤ w → arX F T L cn lv to k = arX F T L cm lv to k := by
  intro k
  induction k with
  | zero => intro _; rfl
  | succ k ih =>
    intro hk
    have q := hF k (by omega)
    unfold arX
    rw [ih (by omega)]
    by_cases e : 32 ≤ F k ∧ T k = to ∧ L ((F k - 32) / 6) = lv
    · rw [if_pos e, if_pos e, h _ (by omega) e.2.2]
    · rw [if_neg e, if_neg e]
/-- the same of the totals of a level -/
theorem brX_ar {F T L cn : Nat → Nat} {cg : Nat → Int32} {lv q N w : Nat} {z : (Nat → Int32) × Int32} (hs : ∀ k, k < w → 32 ≤ F k → whl (cg ((F k - 32) / 6)) ((F k - 32) % 6) = nI (whN (cn ((F k - 32) / 6)) ((F k - 32) % 6))) (z1 : ∀ p, p < N → z.1 p = -1) (z2 : z.2 = nI 0) :
    ∀ k, k ≤ w → (∀ p, p < N → (arX F T L cn lv (q + p) k = -2 ∧ (brX F T L cg lv q N k z).1 p ≠ -1) ∨ (arX F T L cn lv (q + p) k ≠ -2 ∧ (brX F T L cg lv q N k z).1 p = arX F T L cn lv (q + p) k)) ∧ (((brX F T L cg lv q N k z).2 = nI 0 ∧ ∀ p, p < N → arX F T L cn lv (q + p) k ≠ -2) ∨ ((brX F T L cg lv q N k z).2 = nI 1 ∧ ∃ p, p < N ∧ arX F T L cn lv (q + p) k = -2)) := by
  intro k
  induction k with
  | zero =>
    intro _
    refine ⟨fun p hp => Or.inr ⟨by show (-1 : Int32) ≠ -2; decide, z1 p hp⟩, Or.inl ⟨z2, fun p hp => by show (-1 : Int32) ≠ -2; decide⟩⟩
  | succ k ih =>
    intro hk
    obtain ⟨i1, i2⟩ := ih (by omega)
    obtain ⟨y, hy⟩ : ∃ y, y = brX F T L cg lv q N k z := ⟨_, rfl⟩
    rw [← hy] at i1 i2
    have eb : brX F T L cg lv q N (k + 1) z = if 32 ≤ F k ∧ q ≤ T k ∧ T k < q + N ∧ L ((F k - 32) / 6) = lv then (upd y.1 (T k - q) (whl (cg ((F k - 32) / 6)) ((F k - 32) % 6)), if y.1 (T k - q) = -1 ∨ y.1 (T k - q) = whl (cg ((F k - 32) / 6)) ((F k - 32) % 6) then y.2 else nI 1) else y := by rw [hy]; rfl
    have ea : ∀ p, arX F T L cn lv (q + p) (k + 1) = if 32 ≤ F k ∧ T k = q + p ∧ L ((F k - 32) / 6) = lv then arS (arX F T L cn lv (q + p) k) (nI (whN (cn ((F k - 32) / 6)) ((F k - 32) % 6))) else arX F T L cn lv (q + p) k := fun p => rfl
    rw [eb]
    by_cases h : 32 ≤ F k ∧ q ≤ T k ∧ T k < q + N ∧ L ((F k - 32) / 6) = lv
    · rw [if_pos h]
      rw [hs k (by omega) h.1]
      have g := whN_sg (cn ((F k - 32) / 6)) ((F k - 32) % 6)
      obtain ⟨g1, g2, g3⟩ := nI_nn g
      have hp0 : T k - q < N := by omega
      have other : ∀ p, p ≠ T k - q → arX F T L cn lv (q + p) (k + 1) = arX F T L cn lv (q + p) k := fun p hp => by rw [ea, if_neg (by omega)]
      have here : arX F T L cn lv (q + (T k - q)) (k + 1) = if nI (whN (cn ((F k - 32) / 6)) ((F k - 32) % 6)) = arX F T L cn lv (q + (T k - q)) k then arX F T L cn lv (q + (T k - q)) k else if arX F T L cn lv (q + (T k - q)) k = -1 then nI (whN (cn ((F k - 32) / 6)) ((F k - 32) % 6)) else -2 := by rw [ea, if_pos ⟨h.1, by omega, h.2.2.2⟩, arS_n g]
      have keep : ∀ p, p < N → p ≠ T k - q → (arX F T L cn lv (q + p) (k + 1) = -2 ∧ upd y.1 (T k - q) (nI (whN (cn ((F k - 32) / 6)) ((F k - 32) % 6))) p ≠ -1) ∨ (arX F T L cn lv (q + p) (k + 1) ≠ -2 ∧ upd y.1 (T k - q) (nI (whN (cn ((F k - 32) / 6)) ((F k - 32) % 6))) p = arX F T L cn lv (q + p) (k + 1)) := fun p hp e => by
        rw [other p e, pk_un e]; exact i1 p hp
      rcases i1 (T k - q) hp0 with ⟨b1, b2⟩ | ⟨b1, b2⟩
      · have e' : arX F T L cn lv (q + (T k - q)) (k + 1) = -2 := by
          rw [here, b1, if_neg g3, if_neg (by decide)]
        refine ⟨fun p hp => ?_, ?_⟩
        · by_cases e : p = T k - q
          · subst e; exact Or.inl ⟨e', by show upd y.1 (T k - q) (nI (whN (cn ((F k - 32) / 6)) ((F k - 32) % 6))) (T k - q) ≠ -1; rw [pk_us]; exact g2⟩
          · exact keep p hp e
        · have y2 : y.2 = nI 1 := by
            rcases i2 with ⟨_, a2⟩ | ⟨a1, _⟩
            · exact absurd b1 (a2 _ hp0)
            · exact a1
          refine Or.inr ⟨?_, _, hp0, e'⟩
          show (if y.1 (T k - q) = -1 ∨ y.1 (T k - q) = nI (whN (cn ((F k - 32) / 6)) ((F k - 32) % 6)) then y.2 else nI 1) = nI 1
          rw [y2]; exact ite_self _
      · by_cases c1 : nI (whN (cn ((F k - 32) / 6)) ((F k - 32) % 6)) = arX F T L cn lv (q + (T k - q)) k
        · have e' : arX F T L cn lv (q + (T k - q)) (k + 1) = arX F T L cn lv (q + (T k - q)) k := by rw [here, if_pos c1]
          refine ⟨fun p hp => ?_, ?_⟩
          · by_cases e : p = T k - q
            · subst e; exact Or.inr ⟨by rw [e']; exact b1, by show upd y.1 (T k - q) (nI (whN (cn ((F k - 32) / 6)) ((F k - 32) % 6))) (T k - q) = _; rw [pk_us, e']; exact c1⟩
            · exact keep p hp e
          · have ey : (if y.1 (T k - q) = -1 ∨ y.1 (T k - q) = nI (whN (cn ((F k - 32) / 6)) ((F k - 32) % 6)) then y.2 else nI 1) = y.2 := if_pos (Or.inr (by rw [b2]; exact c1.symm))
            show ((if y.1 (T k - q) = -1 ∨ y.1 (T k - q) = nI (whN (cn ((F k - 32) / 6)) ((F k - 32) % 6)) then y.2 else nI 1) = nI 0 ∧ _) ∨ ((if y.1 (T k - q) = -1 ∨ y.1 (T k - q) = nI (whN (cn ((F k - 32) / 6)) ((F k - 32) % 6)) then y.2 else nI 1) = nI 1 ∧ _)
            rw [ey]
            have same : ∀ p, arX F T L cn lv (q + p) (k + 1) = arX F T L cn lv (q + p) k := fun p => by
              by_cases e : p = T k - q
              · rw [e]; exact e'
              · exact other p e
            rcases i2 with ⟨a1, a2⟩ | ⟨a1, p, hp, a2⟩
            · exact Or.inl ⟨a1, fun p hp => by rw [same p]; exact a2 p hp⟩
            · exact Or.inr ⟨a1, p, hp, by rw [same p]; exact a2⟩
        · by_cases c2 : arX F T L cn lv (q + (T k - q)) k = -1
          · have e' : arX F T L cn lv (q + (T k - q)) (k + 1) = nI (whN (cn ((F k - 32) / 6)) ((F k - 32) % 6)) := by rw [here, if_neg c1, if_pos c2]
            refine ⟨fun p hp => ?_, ?_⟩
            · by_cases e : p = T k - q
              · subst e; exact Or.inr ⟨by rw [e']; exact g3, by show upd y.1 (T k - q) (nI (whN (cn ((F k - 32) / 6)) ((F k - 32) % 6))) (T k - q) = _; rw [pk_us, e']⟩
              · exact keep p hp e
            · have ey : (if y.1 (T k - q) = -1 ∨ y.1 (T k - q) = nI (whN (cn ((F k - 32) / 6)) ((F k - 32) % 6)) then y.2 else nI 1) = y.2 := if_pos (Or.inl (b2.trans c2))
              show ((if y.1 (T k - q) = -1 ∨ y.1 (T k - q) = nI (whN (cn ((F k - 32) / 6)) ((F k - 32) % 6)) then y.2 else nI 1) = nI 0 ∧ _) ∨ ((if y.1 (T k - q) = -1 ∨ y.1 (T k - q) = nI (whN (cn ((F k - 32) / 6)) ((F k - 32) % 6)) then y.2 else nI 1) = nI 1 ∧ _)
              rw [ey]
              rcases i2 with ⟨a1, a2⟩ | ⟨a1, p, hp, a2⟩
              · refine Or.inl ⟨a1, fun p hp => ?_⟩
                by_cases e : p = T k - q
                · rw [e, e']; exact g3
                · rw [other p e]; exact a2 p hp
              · refine Or.inr ⟨a1, p, hp, ?_⟩
                by_cases e : p = T k - q
                · subst e; exact absurd a2 b1
                · rw [other p e]; exact a2
          · have e' : arX F T L cn lv (q + (T k - q)) (k + 1) = -2 := by rw [here, if_neg c1, if_neg c2]
            refine ⟨fun p hp => ?_, ?_⟩
            · by_cases e : p = T k - q
              · subst e; exact Or.inl ⟨e', by show upd y.1 (T k - q) (nI (whN (cn ((F k - 32) / 6)) ((F k - 32) % 6))) (T k - q) ≠ -1; rw [pk_us]; exact g2⟩
              · exact keep p hp e
            · refine Or.inr ⟨?_, _, hp0, e'⟩
              show (if y.1 (T k - q) = -1 ∨ y.1 (T k - q) = nI (whN (cn ((F k - 32) / 6)) ((F k - 32) % 6)) then y.2 else nI 1) = nI 1
              rw [if_neg (fun z => ?_)]
              rcases z with z | z
              · exact c2 (b2.symm.trans z)
              · exact c1 (z.symm.trans b2)
    · rw [if_neg h]
      have same : ∀ p, p < N → arX F T L cn lv (q + p) (k + 1) = arX F T L cn lv (q + p) k := fun p hp => by rw [ea, if_neg (fun z => h ⟨z.1, by omega, by omega, z.2.2⟩)]
      refine ⟨fun p hp => by rw [same p hp]; exact i1 p hp, ?_⟩
      rcases i2 with ⟨a1, a2⟩ | ⟨a1, p, hp, a2⟩
      · exact Or.inl ⟨a1, fun p hp => by rw [same p hp]; exact a2 p hp⟩
      · exact Or.inr ⟨a1, p, hp, by rw [same p hp]; exact a2⟩
/-- do two signs that differ come to one of the print jacks -/
def clX (F T L cn : Nat → Nat) (lv w : Nat) : Nat → Bool
  | 0 => false
  | p + 1 => clX F T L cn lv w p || decide (arX F T L cn lv (32 + p) w = -2)
theorem clX_iff {F T L cn : Nat → Nat} {lv w : Nat} : ∀ N, clX F T L cn lv w N = true ↔ ∃ p, p < N ∧ arX F T L cn lv (32 + p) w = -2 := by
  intro N
  induction N with
  | zero => exact ⟨fun z => (by cases z), fun ⟨p, hp, _⟩ => absurd hp (Nat.not_lt_zero _)⟩
  | succ N ih =>
    unfold clX
    rw [Bool.or_eq_true, ih, decide_eq_true_eq]
    constructor
    · rintro (⟨p, hp, e⟩ | e)
      · exact ⟨p, by omega, e⟩
      · exact ⟨N, by omega, e⟩
    · rintro ⟨p, hp, e⟩
      by_cases h : p = N
      · subst h; exact Or.inr e
      · exact Or.inl ⟨p, by omega, e⟩
theorem clX_not {F T L cn : Nat → Nat} {lv w N p : Nat} (h : clX F T L cn lv w N = false) (hp : p < N) : arX F T L cn lv (32 + p) w ≠ -2 := fun e => by
  have := (clX_iff N).mpr ⟨p, hp, e⟩
  rw [h] at this; cases this
theorem clX_c {F T L cn cm : Nat → Nat} {lv w : Nat} (hF : ∀ k, k < w → F k < 56) (h : ∀ c, c < 4 → L c = lv → cn c = cm c) : ∀ N, clX F T L cn lv w N = clX F T L cm lv w N := by
  intro N
  induction N with
  | zero => rfl
  | succ N ih =>
    unfold clX
    rw [ih, arX_c hF h w (Nat.le_refl _)]
theorem clN_not {F T t : Nat → Nat} {q w N p : Nat} (h : clB F T t q w N = false) (hp : p < N) : arN F T t (q + p) w ≠ -2 := fun e => by
  have := (clB_iff N).mpr ⟨p, hp, e⟩
  rw [h] at this; cases this
/-- the print jacks behind a level's totals -/
theorem brX_24 {F T L cn : Nat → Nat} {lv w : Nat} {g : Nat → Int32} (hok : BdOk w F T L) (hc : ∀ c, c < 4 → cn c < 1000000) : (brX F T L (fun j => nI (cn j)) lv 32 24 w (cpy (fun _ => -1) g 24, nI 0)).2 = mk_b (clX F T L cn lv w 24 = true) ∧ (clX F T L cn lv w 24 = false → ∀ p, p < 24 → (brX F T L (fun j => nI (cn j)) lv 32 24 w (cpy (fun _ => -1) g 24, nI 0)).1 p = arX F T L cn lv (32 + p) w) := by
  have h := brX_ar (F := F) (T := T) (L := L) (cn := cn) (cg := fun j => nI (cn j)) (lv := lv) (q := 32) (N := 24) (z := (cpy (fun _ => -1) g 24, nI 0)) (w := w) (fun k hk h32 => by
    have o1 := (hok.2.1 k hk).1
    unfold okF at o1
    have := hc ((F k - 32) / 6) (by omega)
    exact whl_n (by omega) (by omega)) (fun p hp => by show cpy (fun _ => (-1 : Int32)) g 24 p = -1; rw [cpy_lt hp]) rfl w (Nat.le_refl _)
  refine ⟨?_, fun hn p hp => ?_⟩
  · rcases h.2 with ⟨a1, a2⟩ | ⟨a1, p, hp, a2⟩
    · rw [a1, mk_b_f]
      intro z
      obtain ⟨p, hp, e⟩ := (clX_iff 24).mp z
      exact a2 p hp e
    · rw [a1, mk_b_t ((clX_iff 24).mpr ⟨p, hp, a2⟩)]
  · rcases h.1 p hp with ⟨a1, -⟩ | ⟨-, a2⟩
    · exact absurd a1 (clX_not hn hp)
    · exact a2
/-- 24 jacks behind a card -/
theorem brC_24 {F T L t : Nat → Nat} {q w : Nat} {g : Nat → Int32} (hok : BdOk w F T L) (ht : ∀ j, j < 16 → sg (t j)) : (brC F T t q 24 w (cpy (fun _ => -1) g 24, nI 0)).2 = mk_b (clB F T t q w 24 = true) ∧ (clB F T t q w 24 = false → ∀ p, p < 24 → (brC F T t q 24 w (cpy (fun _ => -1) g 24, nI 0)).1 p = arN F T t (q + p) w) := by
  have h := brC_ar (q := q) (N := 24) (z := (cpy (fun _ => -1) g 24, nI 0)) (w := w) (fun k hk h32 => sgF_ok (hok.2.1 k hk).1 h32 ht) (fun p hp => by show cpy (fun _ => (-1 : Int32)) g 24 p = -1; rw [cpy_lt hp]) rfl w (Nat.le_refl _) (T := T)
  refine ⟨?_, fun hn p hp => ?_⟩
  · rcases h.2 with ⟨a1, a2⟩ | ⟨a1, p, hp, a2⟩
    · rw [a1, mk_b_f]
      intro z
      obtain ⟨p, hp, e⟩ := (clB_iff 24).mp z
      exact a2 p hp e
    · rw [a1, mk_b_t ((clB_iff 24).mpr ⟨p, hp, a2⟩)]
  · rcases h.1 p hp with ⟨a1, -⟩ | ⟨-, a2⟩
    · exact absurd a1 (clN_not hn hp)
    · exact a2
/-- the sign that is printed for what has come -/
def prN (a : Int32) : Nat := if a < 0 then 32 else a.toNatClampNeg
theorem prN_c {a : Int32} (h : a = -1 ∨ a = -2 ∨ ∃ c, sg c ∧ a = nI c) (h2 : a ≠ -2) : (if a = -1 then nI 32 else a) = nI (prN a) := by
  unfold prN
  rcases h with z | z | ⟨c, hc, z⟩
  · rw [z, if_pos rfl, if_pos (by decide)]
  · exact absurd z h2
  · have n3 := nI_nn hc
    have := sg_lt hc
    rw [z, if_neg n3.2.1, if_neg n3.1, nI_clamp (by omega)]
theorem prN_m {a : Int32} (h : a = -1 ∨ a = -2 ∨ ∃ c, sg c ∧ a = nI c) : sg (prN a) ∧ (if a < 0 then nI 32 else a) = nI (prN a) := by
  unfold prN
  rcases h with z | z | ⟨c, hc, z⟩
  · rw [z, if_pos (by decide), if_pos (by decide)]; exact ⟨Or.inl rfl, rfl⟩
  · rw [z, if_pos (by decide), if_pos (by decide)]; exact ⟨Or.inl rfl, rfl⟩
  · have n3 := nI_nn hc
    have := sg_lt hc
    rw [z, if_neg n3.1, if_neg n3.1, nI_clamp (by omega)]
    exact ⟨hc, rfl⟩
/-- what comes to a counter's wheels -/
def enD (a : Int32) : Nat := if a < 0 then 0 else dgz a.toNatClampNeg
def enN (F T t : Nat → Nat) (w c : Nat) : Nat → Nat
  | 0 => 0
  | k + 1 => enN F T t w c k + enD (arN F T t (64 + (c * 6 + k)) w) * 10 ^ k
theorem dgz9 {c : Nat} (hc : sg c) : dgz c ≤ 9 := by
  unfold sg at hc; unfold dgz dgN
  split
  · omega
  · split
    · omega
    · split
      · omega
      · split <;> omega
theorem enD9 {a : Int32} (h : a = -1 ∨ a = -2 ∨ ∃ c, sg c ∧ a = nI c) : enD a ≤ 9 := by
  unfold enD
  rcases h with z | z | ⟨c, hc, z⟩
  · rw [z, if_pos (by decide)]; decide
  · rw [z, if_pos (by decide)]; decide
  · have n3 := nI_nn hc
    have := sg_lt hc
    rw [z, if_neg n3.1, nI_clamp (by omega)]; exact dgz9 hc
theorem enN_lt {F T t L : Nat → Nat} {w c : Nat} (hok : BdOk w F T L) (ht : ∀ j, j < 16 → sg (t j)) : ∀ k, enN F T t w c k < 10 ^ k := by
  intro k
  induction k with
  | zero => exact Nat.one_pos
  | succ k ih =>
    unfold enN
    have h1 := enD9 (arN_sg (p := 64 + (c * 6 + k)) (T := T) hok ht)
    have h2 : enD (arN F T t (64 + (c * 6 + k)) w) * 10 ^ k ≤ 9 * 10 ^ k := Nat.mul_le_mul_right _ h1
    rw [Nat.pow_succ]
    omega
/-- counters, how many lines, the lines -/
abbrev tT : Type := (Nat → Nat) × Nat × (Nat → Nat → Nat)
def clr (L : Nat → Nat) (lv : Nat) (cn : Nat → Nat) : Nat → Nat := fun c => if c < 4 ∧ L c = lv then 0 else cn c
/-- how many total lines the levels below v give -/
def tlN (L : Nat → Nat) : Nat → Nat
  | 0 => 0
  | v + 1 => tlN L v + if hcB L v = true then 1 else 0
theorem tlN_le (L : Nat → Nat) : ∀ v, tlN L v ≤ v := by
  intro v
  induction v with
  | zero => exact Nat.le_refl _
  | succ v ih => unfold tlN; split <;> omega
theorem tlN_mono (L : Nat → Nat) (k : Nat) : ∀ j, tlN L k ≤ tlN L (k + j) := by
  intro j
  induction j with
  | zero => exact Nat.le_refl _
  | succ j ihj => refine Nat.le_trans ihj ?_; show _ ≤ tlN L (k + j) + _; omega
theorem hcB_of {L : Nat → Nat} {c v : Nat} (hc : c < 4) (h : L c = v) : hcB L v = true := by
  unfold hcB
  rcases (show c = 0 ∨ c = 1 ∨ c = 2 ∨ c = 3 by omega) with rfl | rfl | rfl | rfl <;> simp [h]
/-- the totals of the levels below k -/
def toF (F T L : Nat → Nat) (w : Nat) : Nat → tT → tT
  | 0, t => t
  | k + 1, t => if hcB L k = true then (clr L k (toF F T L w k t).1, (toF F T L w k t).2.1 + 1, va_up (toF F T L w k t).2.2 (toF F T L w k t).2.1 (fun p => prN (arX F T L (toF F T L w k t).1 k (32 + p) w))) else toF F T L w k t
theorem toF_ln {F T L : Nat → Nat} {w : Nat} {t : tT} : ∀ k, (toF F T L w k t).2.1 = t.2.1 + tlN L k := by
  intro k
  induction k with
  | zero => rfl
  | succ k ih =>
    unfold toF tlN
    by_cases h : hcB L k = true
    · rw [if_pos h, if_pos h]
      show (toF F T L w k t).2.1 + 1 = _
      omega
    · rw [if_neg h, if_neg h]; omega
theorem toF_cn {F T L : Nat → Nat} {w : Nat} {t : tT} {c : Nat} (hc : c < 4) : ∀ k, (toF F T L w k t).1 c = if L c < k then 0 else t.1 c := by
  intro k
  induction k with
  | zero => rw [if_neg (Nat.not_lt_zero _)]; rfl
  | succ k ih =>
    unfold toF
    by_cases h : hcB L k = true
    · rw [if_pos h]
      show (if c < 4 ∧ L c = k then 0 else (toF F T L w k t).1 c) = _
      rw [ih]
      by_cases e : L c = k
      · rw [if_pos ⟨hc, e⟩, if_pos (by omega)]
      · rw [if_neg (fun z => e z.2)]
        by_cases e2 : L c < k
        · rw [if_pos e2, if_pos (by omega)]
        · rw [if_neg e2, if_neg (by omega)]
    · rw [if_neg h, ih]
      have : L c ≠ k := fun z => h (hcB_of hc z)
      by_cases e2 : L c < k
      · rw [if_pos e2, if_pos (by omega)]
      · rw [if_neg e2, if_neg (by omega)]
theorem toF_lt {F T L : Nat → Nat} {w : Nat} {t : tT} (h : ∀ c, c < 4 → t.1 c < 1000000) (k : Nat) : ∀ c, c < 4 → (toF F T L w k t).1 c < 1000000 := fun c hc => by
  rw [toF_cn hc]
  have := h c hc
  split <;> omega
/-- does a level below k clash -/
def tcB (F T L cn : Nat → Nat) (w : Nat) : Nat → Bool
  | 0 => false
  | k + 1 => tcB F T L cn w k || clX F T L cn k w 24
theorem tcB_iff {F T L cn : Nat → Nat} {w : Nat} : ∀ k, tcB F T L cn w k = true ↔ ∃ v, v < k ∧ clX F T L cn v w 24 = true := by
  intro k
  induction k with
  | zero => exact ⟨fun z => (by cases z), fun ⟨p, hp, _⟩ => absurd hp (Nat.not_lt_zero _)⟩
  | succ k ih =>
    unfold tcB
    rw [Bool.or_eq_true, ih]
    constructor
    · rintro (⟨p, hp, e⟩ | e)
      · exact ⟨p, by omega, e⟩
      · exact ⟨k, by omega, e⟩
    · rintro ⟨p, hp, e⟩
      by_cases h : p = k
      · subst h; exact Or.inr e
      · exact Or.inl ⟨p, by omega, e⟩
/-- does a counter pass what its wheels show -/
def stN (L cn : Nat → Nat) (bk c : Nat) : Nat := if L c < bk then 0 else cn c
def ovB (F T L cn t : Nat → Nat) (w bk : Nat) : Nat → Bool
  | 0 => false
  | c + 1 => ovB F T L cn t w bk c || decide (1000000 ≤ stN L cn bk c + enN F T t w c 6)
theorem ovB_iff {F T L cn t : Nat → Nat} {w bk : Nat} : ∀ k, ovB F T L cn t w bk k = true ↔ ∃ c, c < k ∧ 1000000 ≤ stN L cn bk c + enN F T t w c 6 := by
  intro k
  induction k with
  | zero => exact ⟨fun z => (by cases z), fun ⟨p, hp, _⟩ => absurd hp (Nat.not_lt_zero _)⟩
  | succ k ih =>
    unfold ovB
    rw [Bool.or_eq_true, ih, decide_eq_true_eq]
    constructor
    · rintro (⟨p, hp, e⟩ | e)
      · exact ⟨p, by omega, e⟩
      · exact ⟨k, by omega, e⟩
    · rintro ⟨p, hp, e⟩
      by_cases h : p = k
      · subst h; exact Or.inr e
      · exact Or.inl ⟨p, by omega, e⟩
/-- the fault of a card -/
def fcN (F T L t : Nat → Nat) (w bk : Nat) (u : tT) : Nat := if tcB F T L u.1 w bk = true ∨ (lsB T 0 w = true ∧ clB F T t 32 w 24 = true) ∨ clB F T t 64 w 24 = true then 2 else if ovB F T L u.1 t w bk 4 = true then 3 else if u.2.1 + tlN L bk + (if lsB T 0 w = true then 1 else 0) ≤ 100 then 0 else 4
/-- a card, behind the totals ahead of it -/
def caS (F T t : Nat → Nat) (w : Nat) (P : Bool) (v : tT) : tT := (fun c => if c < 4 then v.1 c + enN F T t w c 6 else v.1 c, v.2.1 + (if P = true then 1 else 0), if P = true then va_up v.2.2 v.2.1 (fun p => prN (arN F T t (32 + p) w)) else v.2.2)
def feN (F T L : Nat → Nat) (w : Nat) (u : tT) : Nat := if tcB F T L u.1 w 4 = true then 2 else if u.2.1 + tlN L 4 ≤ 100 then 0 else 4
/-- behind the last card -/
def tbE (F T L : Nat → Nat) (w i : Nat) (u : tT) : Nat × Nat × tT := if i = 0 then (0, 0, u) else if feN F T L w u = 0 then (0, i, toF F T L w 4 u) else (feN F T L w u, i, u)
def bkN (F T : Nat → Nat) (w : Nat) (c : Nat → Nat) (s : Nat → Nat → Nat) (i : Nat) : Nat := if i = 0 then 0 else lbN F T (s (c (i - 1))) (s (c i)) w
theorem bkN_le {F T : Nat → Nat} {w : Nat} {c : Nat → Nat} {s : Nat → Nat → Nat} {i : Nat} : bkN F T w c s i ≤ 3 := by
  unfold bkN
  split
  · exact Nat.zero_le _
  · exact lbN_le w
/-- a run, from card i on: fault, card, what stands then -/
def tbG (F T L : Nat → Nat) (w : Nat) (c : Nat → Nat) (s : Nat → Nat → Nat) : Nat → Nat → tT → Nat × Nat × tT
  | 0, i, u => tbE F T L w i u
  | m + 1, i, u => if fcN F T L (s (c i)) w (bkN F T w c s i) u = 0 then tbG F T L w c s m (i + 1) (caS F T (s (c i)) w (lsB T 0 w) (toF F T L w (bkN F T w c s i) u)) else (fcN F T L (s (c i)) w (bkN F T w c s i) u, i, u)
end
section
/-! the paper and the tabulator: paper 18 (rows 20 .. 119 in 19), counters 17, lines 120/121, 122/123, entries 124/125 -/
theorem c_Paper_hasRoomFor (G : mz_G) (X : mz_E) (n : Nat) (f : mz_H) {x m : Nat} {p19 : Value} (h18 : f 18 = .inr (7, [p19, .int (nI x)])) (hx : x ≤ 100) (hm : m ≤ 100) :
    mz_Ct G X y_Paper_hasRoomFor b_Paper_hasRoomFor 2 (some .boolean) (r_Paper_hasRoomFor 0 0) [.ref 18, .int (nI m)] n f (fun v n' f' => v = some (.int (mk_b (x + m ≤ 100))) ∧ n' = n ∧ f' = f) := by
  refine mk_Ct 7 false [some (.ref 18), some (.int (nI m))] (by decide) rfl (by decide) (Nat.le_of_ble_eq_true rfl) rfl ?_
  refine mz_go [] 20 ?_
  simp only [mz_r0, mk_lit, mk_fin, mk_cat, mk_fit, mk_nar, mk_cls, mk_ty, mk_isr, List.mem_cons, List.not_mem_nil, or_false, or_true, false_or, true_or, Nat.reduceEqDiff, Nat.reduceAdd, Nat.reduceSub, Nat.reduceLT, Nat.reduceLeDiff, ↓reduceIte, if_true, if_false, List.getElem?_cons_zero, List.getElem?_cons_succ, List.set_cons_zero, List.set_cons_succ, List.length_cons, List.length_nil, mz_s1, mz_s2, mz_cl, true_and, and_true, false_and, and_false, List.append_nil, mk_b0, mk_b1, mk_b2, mk_bn, Value.int.injEq, Option.toList_some, Option.toList_none, List.cons_append, List.nil_append, Classical.not_not, Option.some.injEq, reduceCtorEq, ne_eq, not_true_eq_false, not_false_eq_true, false_implies, true_implies, ev_41, ev_79, ft_7_1, fn_7_1, ev_37, ev_5, ev_1, ev_58, ev_0, ev_61, ev_64, mz_rl d_Paper_hasRoomFor_0, mz_rl d_Paper_hasRoomFor_1, mz_rl d_Paper_hasRoomFor_4, mz_rl d_Paper_hasRoomFor_5, mz_rl d_Paper_hasRoomFor_6, mz_rl d_Paper_hasRoomFor_8, mz_rl d_Paper_hasRoomFor_11, mz_rl d_Paper_hasRoomFor_12, mz_rl d_Paper_hasRoomFor_15, mz_rl d_Paper_hasRoomFor_16, j_Paper_hasRoomFor_8, j_Paper_hasRoomFor_12, nF_7, h18, nI_add, nI_ltI (show 100 < 2 ^ 31 by decide) (show x + m < 2 ^ 31 by omega)]
  omega
def rowQ : Nat → Option Nat := fun i => if i < 100 then some (20 + i) else none
/-- the paper: its rows are there -/
def Pa (f : mz_H) (x : Nat) : Prop := f 18 = .inr (7, [.ref 19, .int (nI x)]) ∧ f 19 = aQ 7 100 rowQ ∧ ∀ i, i < 100 → ∃ g, f (20 + i) = aI 24 g
theorem l_Paper_print (G : mz_G) (X : mz_E) (n : Nat) (f : mz_H) {x j ja q : Nat} {cl : Int32} {g : Nat → Int32} (h18 : f 18 = .inr (7, [.ref 19, .int (nI x)])) (h19 : f 19 = aQ 7 100 rowQ) (hx : x < 100) (k1 : f j = .inr (6, [.int (nI q), .ref ja, .int cl])) (k2 : f ja = aI 24 g) (hj : 119 < j) (hja : 119 < ja) :
    ∀ m p gr, p + m = 24 → (∀ j, j < p → gr j = if g j = -1 then nI 32 else g j) → mz_X G X 7 false b_Paper_print 3 none (r_Paper_print 0 0) (fun v n' f' => v = none ∧ n' = n ∧ ∃ gr, f' = mz_u (mz_u f (20 + x) (aI 24 gr)) 18 (.inr (7, [.ref 19, .int (nI (x + 1))])) ∧ ∀ j, j < 24 → gr j = if g j = -1 then nI 32 else g j) (fun _ _ _ => False) 2 [some (.ref 18), some (.ref j), some (.int (nI p))] [] 0 0 n (mz_u f (20 + x) (aI 24 gr)) := by
  have hr : rowQ x = some (20 + x) := by unfold rowQ; rw [if_pos hx]
  intro m
  induction m with
  | zero =>
    intro p gr hp hgr
    have : p = 24 := by omega
    subst this
    refine mz_go [2] 20 ?_
    simp only [mz_r0, mk_lit, mk_fin, mk_cat, mk_fit, mk_nar, mk_cls, mk_ty, mk_isr, List.mem_cons, List.not_mem_nil, or_false, or_true, false_or, true_or, Nat.reduceEqDiff, Nat.reduceAdd, Nat.reduceSub, Nat.reduceLT, Nat.reduceLeDiff, ↓reduceIte, if_true, if_false, List.getElem?_cons_zero, List.getElem?_cons_succ, List.set_cons_zero, List.set_cons_succ, List.length_cons, List.length_nil, mz_s1, mz_s2, mz_cl, true_and, and_true, false_and, and_false, List.append_nil, mk_b0, mk_b1, mk_b2, mk_bn, Value.int.injEq, Option.toList_some, Option.toList_none, List.cons_append, List.nil_append, Classical.not_not, Option.some.injEq, reduceCtorEq, ne_eq, not_true_eq_false, not_false_eq_true, false_implies, true_implies, ev_37, ev_1, ev_56, ev_41, ev_79, ft_7_0, fn_7_0, ft_7_1, fn_7_1, ev_76, ev_32, ev_0, ev_5, ev_80, ev_67, mz_rl d_Paper_print_2, mz_rl d_Paper_print_3, mz_rl d_Paper_print_5, mz_rl d_Paper_print_8, mz_rl d_Paper_print_9, mz_rl d_Paper_print_12, mz_rl d_Paper_print_13, mz_rl d_Paper_print_16, mz_rl d_Paper_print_17, mz_rl d_Paper_print_18, mz_rl d_Paper_print_19, mz_rl d_Paper_print_20, mz_rl d_Paper_print_30, mz_rl d_Paper_print_31, mz_rl d_Paper_print_32, mz_rl d_Paper_print_35, mz_rl d_Paper_print_36, mz_rl d_Paper_print_37, mz_rl d_Paper_print_40, j_Paper_print_5, nF_7, mk_le, mk_ti, Int.le_refl, h18, mz_u_n (show 18 ≠ 20 + x by omega), nI_add]
    exact ⟨gr, rfl, hgr⟩
  | succ m ih =>
    intro p gr hp hgr
    refine mz_go [20] 20 ?_
    simp only [mz_r0, mk_lit, mk_fin, mk_cat, mk_fit, mk_nar, mk_cls, mk_ty, mk_isr, List.mem_cons, List.not_mem_nil, or_false, or_true, false_or, true_or, Nat.reduceEqDiff, Nat.reduceAdd, Nat.reduceSub, Nat.reduceLT, Nat.reduceLeDiff, ↓reduceIte, if_true, if_false, List.getElem?_cons_zero, List.getElem?_cons_succ, List.set_cons_zero, List.set_cons_succ, List.length_cons, List.length_nil, mz_s1, mz_s2, mz_cl, true_and, and_true, false_and, and_false, List.append_nil, mk_b0, mk_b1, mk_b2, mk_bn, Value.int.injEq, Option.toList_some, Option.toList_none, List.cons_append, List.nil_append, Classical.not_not, Option.some.injEq, reduceCtorEq, ne_eq, not_true_eq_false, not_false_eq_true, false_implies, true_implies, ev_37, ev_1, ev_56, ev_41, ev_79, ft_7_0, fn_7_0, ft_7_1, fn_7_1, ev_76, ev_32, ev_0, ev_5, ev_80, ev_67, mz_rl d_Paper_print_2, mz_rl d_Paper_print_3, mz_rl d_Paper_print_5, mz_rl d_Paper_print_8, mz_rl d_Paper_print_9, mz_rl d_Paper_print_12, mz_rl d_Paper_print_13, mz_rl d_Paper_print_16, mz_rl d_Paper_print_17, mz_rl d_Paper_print_18, mz_rl d_Paper_print_19, mz_rl d_Paper_print_30, mz_rl d_Paper_print_31, mz_rl d_Paper_print_32, mz_rl d_Paper_print_35, mz_rl d_Paper_print_36, mz_rl d_Paper_print_37, mz_rl d_Paper_print_40, j_Paper_print_5, nF_7, nI_leI (show 24 < 2 ^ 31 by decide) (show p < 2 ^ 31 by omega), show ¬ 24 ≤ p by omega, h18, h19, mz_u_n (show 18 ≠ 20 + x by omega), mz_u_n (show 19 ≠ 20 + x by omega), vp_in_nI hx (show 100 < 2 ^ 31 by decide), nI_clamp (show x < 2 ^ 31 by omega), hr, va_rf]
    refine mz_callV (by simp only [d_Paper_print_20, Nat.reduceAdd]) g_7_20 rfl (fun _ _ h => h) (c_Jacks_signOrBlank G X n _ (k := p) (show _ = (Sum.inr (6, [.int (nI q), .ref ja, .int cl]) : mz_C) by rw [mz_u_n (show j ≠ 20 + x by omega)]; exact k1) (show _ = aI 24 g by rw [mz_u_n (show ja ≠ 20 + x by omega)]; exact k2) (show p < 24 by omega) (by decide)) (show _ = (Sum.inr (6, [.int (nI q), .ref ja, .int cl]) : mz_C) by rw [mz_u_n (show j ≠ 20 + x by omega)]; exact k1) rfl rfl (by decide) (Nat.le_of_ble_eq_true rfl) rfl ?_; intro v_ n_ f_ h_; obtain ⟨rfl, hn_, hf_⟩ := h_; replace hn_ := hn_.symm; replace hf_ := hf_.symm; subst hn_; subst hf_
    refine mz_go [2] 20 ?_
    simp only [mz_r0, mk_lit, mk_fin, mk_cat, mk_fit, mk_nar, mk_cls, mk_ty, mk_isr, List.mem_cons, List.not_mem_nil, or_false, or_true, false_or, true_or, Nat.reduceEqDiff, Nat.reduceAdd, Nat.reduceSub, Nat.reduceLT, Nat.reduceLeDiff, ↓reduceIte, if_true, if_false, List.getElem?_cons_zero, List.getElem?_cons_succ, List.set_cons_zero, List.set_cons_succ, List.length_cons, List.length_nil, mz_s1, mz_s2, mz_cl, true_and, and_true, false_and, and_false, List.append_nil, mk_b0, mk_b1, mk_b2, mk_bn, Value.int.injEq, Option.toList_some, Option.toList_none, List.cons_append, List.nil_append, Classical.not_not, Option.some.injEq, reduceCtorEq, ne_eq, not_true_eq_false, not_false_eq_true, false_implies, true_implies, ev_72, ev_48, ev_61, mz_rl d_Paper_print_23, mz_rl d_Paper_print_24, mz_rl d_Paper_print_27, j_Paper_print_27, nF_7, vp_in_nI (show p < 24 by omega) (show 24 < 2 ^ 31 by decide), nI_clamp (show p < 2 ^ 31 by omega), mz_u_s, mz_uu, nI_add]
    refine ih (p + 1) _ (by omega) (fun j hj => ?_)
    by_cases e : j = p
    · subst e; rw [pk_us]
    · rw [pk_un e]; exact hgr j (by omega)
theorem c_Paper_print (G : mz_G) (X : mz_E) (n : Nat) (f : mz_H) {x j ja q : Nat} {cl : Int32} {g : Nat → Int32} (hP : Pa f x) (hx : x < 100) (k1 : f j = .inr (6, [.int (nI q), .ref ja, .int cl])) (k2 : f ja = aI 24 g) (hj : 119 < j) (hja : 119 < ja) :
    mz_Ct G X y_Paper_print b_Paper_print 3 none (r_Paper_print 0 0) [.ref 18, .ref j] n f (fun v n' f' => v = none ∧ n' = n ∧ (∀ z, z ≠ 18 → z ≠ 20 + x → f' z = f z) ∧ Pa f' (x + 1) ∧ ∃ gr, f' (20 + x) = aI 24 gr ∧ ∀ j, j < 24 → gr j = if g j = -1 then nI 32 else g j) := by
  refine mk_Ct 7 false [some (.ref 18), some (.ref j), none] (by decide) rfl (by decide) (Nat.le_of_ble_eq_true rfl) rfl ?_
  obtain ⟨gr, hgr⟩ := hP.2.2 x hx
  refine mz_go [2] 20 ?_
  simp only [mz_r0, mk_lit, mk_fin, mk_cat, mk_fit, mk_nar, mk_cls, mk_ty, mk_isr, List.mem_cons, List.not_mem_nil, or_false, or_true, false_or, true_or, Nat.reduceEqDiff, Nat.reduceAdd, Nat.reduceSub, Nat.reduceLT, Nat.reduceLeDiff, ↓reduceIte, if_true, if_false, List.getElem?_cons_zero, List.getElem?_cons_succ, List.set_cons_zero, List.set_cons_succ, List.length_cons, List.length_nil, mz_s1, mz_s2, mz_cl, true_and, and_true, false_and, and_false, List.append_nil, mk_b0, mk_b1, mk_b2, mk_bn, Value.int.injEq, Option.toList_some, Option.toList_none, List.cons_append, List.nil_append, Classical.not_not, Option.some.injEq, reduceCtorEq, ne_eq, not_true_eq_false, not_false_eq_true, false_implies, true_implies, ev_0, ev_43, mz_rl d_Paper_print_0, mz_rl d_Paper_print_1, nF_7]
  have := l_Paper_print G X n f hP.1 hP.2.1 hx k1 k2 hj hja 24 0 gr (by omega) (fun j h => absurd h (Nat.not_lt_zero _))
  rw [mz_ui hgr] at this
  refine mz_mono ?_ this
  rintro v n' f' ⟨rfl, rfl, gr2, rfl, hgr2⟩
  refine ⟨rfl, rfl, fun z z1 z2 => by rw [mz_u_n z1, mz_u_n z2], ⟨mz_u_s _ _ _, ?_, fun i hi => ?_⟩, gr2, by rw [mz_u_n (by omega)]; exact mz_u_s _ _ _, hgr2⟩
  · rw [mz_u_n (by decide), mz_u_n (by omega)]; exact hP.2.1
  · rw [mz_u_n (by omega)]
    by_cases e : i = x
    · subst e; exact ⟨gr2, mz_u_s _ _ _⟩
    · rw [mz_u_n (by omega)]; exact hP.2.2 i hi
theorem Pa_u {f : mz_H} {x : Nat} (h : Pa f x) {a : Nat} (ha : a < 18 ∨ 119 < a) (y : mz_C) : Pa (mz_u f a y) x := by
  refine ⟨?_, ?_, fun i hi => ?_⟩
  · rw [mz_u_n (by omega)]; exact h.1
  · rw [mz_u_n (by omega)]; exact h.2.1
  · rw [mz_u_n (by omega)]; exact h.2.2 i hi
/-- what a card's entries are worth for a counter -/
def enOk (g : Nat → Int32) (F T t : Nat → Nat) (w : Nat) : Prop := ∀ p, p < 24 → g p = arN F T t (64 + p) w ∧ arN F T t (64 + p) w ≠ -2 ∧ (arN F T t (64 + p) w = -1 ∨ arN F T t (64 + p) w = -2 ∨ ∃ c, sg c ∧ arN F T t (64 + p) w = nI c)
theorem enOk_sg {g : Nat → Int32} {F T t : Nat → Nat} {w p : Nat} (h : enOk g F T t w) (hp : p < 24) : ∃ c, sg c ∧ (if g p = -1 then nI 32 else g p) = nI c ∧ dgz c = enD (arN F T t (64 + p) w) := by
  obtain ⟨h1, h2, h3⟩ := h p hp
  unfold enD
  rcases h3 with z | z | ⟨c, hc, z⟩
  · exact ⟨32, Or.inl rfl, by rw [h1, z, if_pos rfl], by rw [z, if_pos (by decide)]; rfl⟩
  · exact absurd z h2
  · have n3 := nI_nn hc
    have := sg_lt hc
    exact ⟨c, hc, by rw [h1, z, if_neg n3.2.1], by rw [z, if_neg n3.1, nI_clamp (by omega)]⟩
theorem l_Tabulator_entered (G : mz_G) (n : Nat) (f : mz_H) {k q w' : Nat} {F T t : Nat → Nat} {cl : Int32} {g : Nat → Int32} {t0 t1 t2 t3 : Value} (hE : f 1000000000001 = mz_d) (h16 : f 16 = .inr (10, [t0, t1, t2, t3, .ref 124])) (k1 : f 124 = .inr (6, [.int (nI q), .ref 125, .int cl])) (k2 : f 125 = aI 24 g) (hk : k < 4) (hg : enOk g F T t w') :
    ∀ m w w4, w + m = 6 → (∀ v, w4 = some v → v.category = 1) → mz_X G mk_P 10 false b_Tabulator_entered 5 (some .int) (r_Tabulator_entered 0 0) (fun v n' f' => v = some (.int (nI (enN F T t w' k 6))) ∧ n' = n ∧ f' = f) (fun _ _ _ => False) 4 [some (.ref 16), some (.int (nI k)), some (.int (nI (enN F T t w' k w))), some (.int (nI w)), w4] [] 0 0 n f := by
  intro m
  induction m with
  | zero =>
    intro w w4 hw h4
    have : w = 6 := by omega
    subst this
    refine mz_go [4] 20 ?_
    simp only [mz_r0, mk_lit, mk_fin, mk_cat, mk_fit, mk_nar, mk_cls, mk_ty, mk_isr, List.mem_cons, List.not_mem_nil, or_false, or_true, false_or, true_or, Nat.reduceEqDiff, Nat.reduceAdd, Nat.reduceSub, Nat.reduceLT, Nat.reduceLeDiff, ↓reduceIte, if_true, if_false, List.getElem?_cons_zero, List.getElem?_cons_succ, List.set_cons_zero, List.set_cons_succ, List.length_cons, List.length_nil, mz_s1, mz_s2, mz_cl, true_and, and_true, false_and, and_false, List.append_nil, mk_b0, mk_b1, mk_b2, mk_bn, Value.int.injEq, Option.toList_some, Option.toList_none, List.cons_append, List.nil_append, Classical.not_not, Option.some.injEq, reduceCtorEq, ne_eq, not_true_eq_false, not_false_eq_true, false_implies, true_implies, ev_37, ev_1, ev_56, ev_41, ev_79, ft_10_4, fn_10_4, ev_7, ev_5, ev_64, mz_rl d_Tabulator_entered_4, mz_rl d_Tabulator_entered_5, mz_rl d_Tabulator_entered_7, mz_rl d_Tabulator_entered_10, mz_rl d_Tabulator_entered_11, mz_rl d_Tabulator_entered_14, mz_rl d_Tabulator_entered_15, mz_rl d_Tabulator_entered_17, mz_rl d_Tabulator_entered_18, mz_rl d_Tabulator_entered_19, mz_rl d_Tabulator_entered_20, mz_rl d_Tabulator_entered_49, mz_rl d_Tabulator_entered_50, j_Tabulator_entered_7, nF_10, mk_le, mk_ti, Int.le_refl]
  | succ m ih =>
    intro w w4 hw h4
    refine mz_go [20] 20 ?_
    simp only [mz_r0, mk_lit, mk_fin, mk_cat, mk_fit, mk_nar, mk_cls, mk_ty, mk_isr, List.mem_cons, List.not_mem_nil, or_false, or_true, false_or, true_or, Nat.reduceEqDiff, Nat.reduceAdd, Nat.reduceSub, Nat.reduceLT, Nat.reduceLeDiff, ↓reduceIte, if_true, if_false, List.getElem?_cons_zero, List.getElem?_cons_succ, List.set_cons_zero, List.set_cons_succ, List.length_cons, List.length_nil, mz_s1, mz_s2, mz_cl, true_and, and_true, false_and, and_false, List.append_nil, mk_b0, mk_b1, mk_b2, mk_bn, Value.int.injEq, Option.toList_some, Option.toList_none, List.cons_append, List.nil_append, Classical.not_not, Option.some.injEq, reduceCtorEq, ne_eq, not_true_eq_false, not_false_eq_true, false_implies, true_implies, ev_37, ev_1, ev_56, ev_41, ev_79, ft_10_4, fn_10_4, ev_7, ev_5, ev_64, mz_rl d_Tabulator_entered_4, mz_rl d_Tabulator_entered_5, mz_rl d_Tabulator_entered_7, mz_rl d_Tabulator_entered_10, mz_rl d_Tabulator_entered_11, mz_rl d_Tabulator_entered_14, mz_rl d_Tabulator_entered_15, mz_rl d_Tabulator_entered_17, mz_rl d_Tabulator_entered_18, mz_rl d_Tabulator_entered_19, mz_rl d_Tabulator_entered_49, mz_rl d_Tabulator_entered_50, j_Tabulator_entered_7, nF_10, nI_leI (show 6 < 2 ^ 31 by decide) (show w < 2 ^ 31 by omega), show ¬ 6 ≤ w by omega, h16, pk_mul, nI_add]
    refine mz_callV (by simp only [d_Tabulator_entered_20, Nat.reduceAdd]) g_10_129 rfl (fun _ _ h => h) (c_Jacks_signOrBlank G mk_P n f (k := k * 6 + w) k1 k2 (show k * 6 + w < 24 by omega) (by decide)) k1 rfl rfl (by decide) (Nat.le_of_ble_eq_true rfl) rfl ?_; intro v_ n_ f_ h_; obtain ⟨rfl, hn_, hf_⟩ := h_; replace hn_ := hn_.symm; replace hf_ := hf_.symm; subst hn_; subst hf_
    obtain ⟨c, hc, e, e2⟩ := enOk_sg hg (show k * 6 + w < 24 by omega)
    rw [e]
    refine mz_go [28] 20 ?_
    simp only [mz_r0, mk_lit, mk_fin, mk_cat, mk_fit, mk_nar, mk_cls, mk_ty, mk_isr, List.mem_cons, List.not_mem_nil, or_false, or_true, false_or, true_or, Nat.reduceEqDiff, Nat.reduceAdd, Nat.reduceSub, Nat.reduceLT, Nat.reduceLeDiff, ↓reduceIte, if_true, if_false, List.getElem?_cons_zero, List.getElem?_cons_succ, List.set_cons_zero, List.set_cons_succ, List.length_cons, List.length_nil, mz_s1, mz_s2, mz_cl, true_and, and_true, false_and, and_false, List.append_nil, mk_b0, mk_b1, mk_b2, mk_bn, Value.int.injEq, Option.toList_some, Option.toList_none, List.cons_append, List.nil_append, Classical.not_not, Option.some.injEq, reduceCtorEq, ne_eq, not_true_eq_false, not_false_eq_true, false_implies, true_implies, ev_42, ev_37, ev_36, mz_rl d_Tabulator_entered_23, mz_rl d_Tabulator_entered_25, mz_rl d_Tabulator_entered_26, nF_10]
    refine mz_callS (by simp only [d_Tabulator_entered_28, Nat.reduceAdd]) g_10_132 rfl (fun _ _ h => h) (c_Office_digitOf G mk_P n f hc) (by decide) (Nat.le_of_ble_eq_true rfl) rfl ?_; intro v_ n_ f_ h_; obtain ⟨rfl, hn_, hf_⟩ := h_; replace hn_ := hn_.symm; replace hf_ := hf_.symm; subst hn_; subst hf_
    refine mz_go [32] 20 ?_
    simp only [mz_r0, mk_lit, mk_fin, mk_cat, mk_fit, mk_nar, mk_cls, mk_ty, mk_isr, List.mem_cons, List.not_mem_nil, or_false, or_true, false_or, true_or, Nat.reduceEqDiff, Nat.reduceAdd, Nat.reduceSub, Nat.reduceLT, Nat.reduceLeDiff, ↓reduceIte, if_true, if_false, List.getElem?_cons_zero, List.getElem?_cons_succ, List.set_cons_zero, List.set_cons_succ, List.length_cons, List.length_nil, mz_s1, mz_s2, mz_cl, true_and, and_true, false_and, and_false, List.append_nil, mk_b0, mk_b1, mk_b2, mk_bn, Value.int.injEq, Option.toList_some, Option.toList_none, List.cons_append, List.nil_append, Classical.not_not, Option.some.injEq, reduceCtorEq, ne_eq, not_true_eq_false, not_false_eq_true, false_implies, true_implies, ev_0, mz_rl d_Tabulator_entered_31, nF_10]
    refine mz_mmax (by simp only [d_Tabulator_entered, Nat.reduceAdd]) w_max_10 (by decide) (Nat.le_of_ble_eq_true rfl) ?_
    rw [dgz_eq hc, e2]
    have ih' := fun w4 h4 => ih (w + 1) w4 (by omega) h4
    have es : enN F T t w' k (w + 1) = enN F T t w' k w + enD (arN F T t (64 + (k * 6 + w)) w') * 10 ^ w := rfl
    rw [es] at ih'
    refine mz_go [4] 20 ?_
    simp only [mz_r0, mk_lit, mk_fin, mk_cat, mk_fit, mk_nar, mk_cls, mk_ty, mk_isr, List.mem_cons, List.not_mem_nil, or_false, or_true, false_or, true_or, Nat.reduceEqDiff, Nat.reduceAdd, Nat.reduceSub, Nat.reduceLT, Nat.reduceLeDiff, ↓reduceIte, if_true, if_false, List.getElem?_cons_zero, List.getElem?_cons_succ, List.set_cons_zero, List.set_cons_succ, List.length_cons, List.length_nil, mz_s1, mz_s2, mz_cl, true_and, and_true, false_and, and_false, List.append_nil, mk_b0, mk_b1, mk_b2, mk_bn, Value.int.injEq, Option.toList_some, Option.toList_none, List.cons_append, List.nil_append, Classical.not_not, Option.some.injEq, reduceCtorEq, ne_eq, not_true_eq_false, not_false_eq_true, false_implies, true_implies, ev_81, ev_37, ev_68, ev_7, ev_5, ev_43, ev_48, ev_61, mz_rl d_Tabulator_entered_35, mz_rl d_Tabulator_entered_38, mz_rl d_Tabulator_entered_39, mz_rl d_Tabulator_entered_40, mz_rl d_Tabulator_entered_41, mz_rl d_Tabulator_entered_42, mz_rl d_Tabulator_entered_43, mz_rl d_Tabulator_entered_46, j_Tabulator_entered_46, nF_10, mk_sta, mk_P1, hE, mz_d, vp_in_nI (show w < 7 by omega) (show 7 < 2 ^ 31 by decide), nI_clamp (show w < 2 ^ 31 by omega), nI_add, pwN w (by omega), pk_mul]
    exact ih' _ (fun v hv => by cases hv; rfl)
theorem c_Tabulator_entered (G : mz_G) (n : Nat) (f : mz_H) {k q w' : Nat} {F T t : Nat → Nat} {cl : Int32} {g : Nat → Int32} {t0 t1 t2 t3 : Value} (hE : f 1000000000001 = mz_d) (h16 : f 16 = .inr (10, [t0, t1, t2, t3, .ref 124])) (k1 : f 124 = .inr (6, [.int (nI q), .ref 125, .int cl])) (k2 : f 125 = aI 24 g) (hk : k < 4) (hg : enOk g F T t w') :
    mz_Ct G mk_P y_Tabulator_entered b_Tabulator_entered 5 (some .int) (r_Tabulator_entered 0 0) [.ref 16, .int (nI k)] n f (fun v n' f' => v = some (.int (nI (enN F T t w' k 6))) ∧ n' = n ∧ f' = f) := by
  refine mk_Ct 10 false [some (.ref 16), some (.int (nI k)), none, none, none] (by decide) rfl (by decide) (Nat.le_of_ble_eq_true rfl) rfl ?_
  refine mz_go [4] 20 ?_
  simp only [mz_r0, mk_lit, mk_fin, mk_cat, mk_fit, mk_nar, mk_cls, mk_ty, mk_isr, List.mem_cons, List.not_mem_nil, or_false, or_true, false_or, true_or, Nat.reduceEqDiff, Nat.reduceAdd, Nat.reduceSub, Nat.reduceLT, Nat.reduceLeDiff, ↓reduceIte, if_true, if_false, List.getElem?_cons_zero, List.getElem?_cons_succ, List.set_cons_zero, List.set_cons_succ, List.length_cons, List.length_nil, mz_s1, mz_s2, mz_cl, true_and, and_true, false_and, and_false, List.append_nil, mk_b0, mk_b1, mk_b2, mk_bn, Value.int.injEq, Option.toList_some, Option.toList_none, List.cons_append, List.nil_append, Classical.not_not, Option.some.injEq, reduceCtorEq, ne_eq, not_true_eq_false, not_false_eq_true, false_implies, true_implies, ev_0, ev_43, mz_rl d_Tabulator_entered_0, mz_rl d_Tabulator_entered_1, mz_rl d_Tabulator_entered_2, mz_rl d_Tabulator_entered_3, nF_10]
  exact l_Tabulator_entered G n f hE h16 k1 k2 hk hg 6 0 none (by omega) (fun v hv => by cases hv)
theorem l_Tabulator_totalLines (G : mz_G) (X : mz_E) (n : Nat) (f : mz_H) {b w lv : Nat} {F T L : Nat → Nat} (h : Bd f b w F T L) (hok : BdOk w F T L) (hlv : lv ≤ 4) :
    ∀ m v, v + m = lv → mz_X G X 10 false b_Tabulator_totalLines 4 (some .int) (r_Tabulator_totalLines 0 0) (fun r n' f' => r = some (.int (nI (tlN L lv))) ∧ n' = n ∧ f' = f) (fun _ _ _ => False) 4 [some (.ref b), some (.int (nI lv)), some (.int (nI (tlN L v))), some (.int (nI v))] [] 0 0 n f := by
  intro m
  induction m with
  | zero =>
    intro v hv
    have : v = lv := by omega
    subst this
    refine mz_go [4] 20 ?_
    simp only [mz_r0, mk_lit, mk_fin, mk_cat, mk_fit, mk_nar, mk_cls, mk_ty, mk_isr, List.mem_cons, List.not_mem_nil, or_false, or_true, false_or, true_or, Nat.reduceEqDiff, Nat.reduceAdd, Nat.reduceSub, Nat.reduceLT, Nat.reduceLeDiff, ↓reduceIte, if_true, if_false, List.getElem?_cons_zero, List.getElem?_cons_succ, List.set_cons_zero, List.set_cons_succ, List.length_cons, List.length_nil, mz_s1, mz_s2, mz_cl, true_and, and_true, false_and, and_false, List.append_nil, mk_b0, mk_b1, mk_b2, mk_bn, Value.int.injEq, Option.toList_some, Option.toList_none, List.cons_append, List.nil_append, Classical.not_not, Option.some.injEq, reduceCtorEq, ne_eq, not_true_eq_false, not_false_eq_true, false_implies, true_implies, ev_37, ev_56, ev_41, ev_64, mz_rl d_Tabulator_totalLines_4, mz_rl d_Tabulator_totalLines_5, mz_rl d_Tabulator_totalLines_6, mz_rl d_Tabulator_totalLines_9, mz_rl d_Tabulator_totalLines_10, mz_rl d_Tabulator_totalLines_11, mz_rl d_Tabulator_totalLines_26, mz_rl d_Tabulator_totalLines_27, j_Tabulator_totalLines_6, nF_10, nI_leI (show v < 2 ^ 31 by omega) (show v < 2 ^ 31 by omega), Nat.le_refl]
  | succ m ih =>
    intro v hv
    have ih' := ih (v + 1) (by omega)
    refine mz_go [11] 20 ?_
    simp only [mz_r0, mk_lit, mk_fin, mk_cat, mk_fit, mk_nar, mk_cls, mk_ty, mk_isr, List.mem_cons, List.not_mem_nil, or_false, or_true, false_or, true_or, Nat.reduceEqDiff, Nat.reduceAdd, Nat.reduceSub, Nat.reduceLT, Nat.reduceLeDiff, ↓reduceIte, if_true, if_false, List.getElem?_cons_zero, List.getElem?_cons_succ, List.set_cons_zero, List.set_cons_succ, List.length_cons, List.length_nil, mz_s1, mz_s2, mz_cl, true_and, and_true, false_and, and_false, List.append_nil, mk_b0, mk_b1, mk_b2, mk_bn, Value.int.injEq, Option.toList_some, Option.toList_none, List.cons_append, List.nil_append, Classical.not_not, Option.some.injEq, reduceCtorEq, ne_eq, not_true_eq_false, not_false_eq_true, false_implies, true_implies, ev_37, ev_56, ev_41, ev_64, mz_rl d_Tabulator_totalLines_4, mz_rl d_Tabulator_totalLines_5, mz_rl d_Tabulator_totalLines_6, mz_rl d_Tabulator_totalLines_9, mz_rl d_Tabulator_totalLines_10, mz_rl d_Tabulator_totalLines_26, mz_rl d_Tabulator_totalLines_27, j_Tabulator_totalLines_6, nF_10, nI_leI (show lv < 2 ^ 31 by omega) (show v < 2 ^ 31 by omega), show ¬ lv ≤ v by omega]
    refine mz_callV (by simp only [d_Tabulator_totalLines_11, Nat.reduceAdd]) g_10_140 rfl (fun _ _ h => h) (c_Board_hasCounterOf G X n f h hok (show v < 2 ^ 31 by omega)) h.1 rfl rfl (by decide) (Nat.le_of_ble_eq_true rfl) rfl ?_; intro v_ n_ f_ h_; obtain ⟨rfl, hn_, hf_⟩ := h_; replace hn_ := hn_.symm; replace hf_ := hf_.symm; subst hn_; subst hf_
    refine mz_go [4] 20 ?_
    simp only [mz_r0, mk_lit, mk_fin, mk_cat, mk_fit, mk_nar, mk_cls, mk_ty, mk_isr, List.mem_cons, List.not_mem_nil, or_false, or_true, false_or, true_or, Nat.reduceEqDiff, Nat.reduceAdd, Nat.reduceSub, Nat.reduceLT, Nat.reduceLeDiff, ↓reduceIte, if_true, if_false, List.getElem?_cons_zero, List.getElem?_cons_succ, List.set_cons_zero, List.set_cons_succ, List.length_cons, List.length_nil, mz_s1, mz_s2, mz_cl, true_and, and_true, false_and, and_false, List.append_nil, mk_b0, mk_b1, mk_b2, mk_bn, Value.int.injEq, Option.toList_some, Option.toList_none, List.cons_append, List.nil_append, Classical.not_not, Option.some.injEq, reduceCtorEq, ne_eq, not_true_eq_false, not_false_eq_true, false_implies, true_implies, ev_49, ev_48, ev_61, mz_rl d_Tabulator_totalLines_14, mz_rl d_Tabulator_totalLines_17, mz_rl d_Tabulator_totalLines_20, mz_rl d_Tabulator_totalLines_23, j_Tabulator_totalLines_14, j_Tabulator_totalLines_23, nF_10, nI_add]
    refine ⟨fun hc => ?_, fun hc => ?_⟩
    · have e : tlN L (v + 1) = tlN L v := by
        show tlN L v + _ = _
        rw [if_neg hc]; rfl
      rw [e] at ih'; exact ih'
    · have e : tlN L (v + 1) = tlN L v + 1 := by
        show tlN L v + _ = _
        rw [if_pos hc]
      rw [e] at ih'; exact ih'
theorem c_Tabulator_totalLines (G : mz_G) (X : mz_E) (n : Nat) (f : mz_H) {b w lv : Nat} {F T L : Nat → Nat} (h : Bd f b w F T L) (hok : BdOk w F T L) (hlv : lv ≤ 4) :
    mz_Ct G X y_Tabulator_totalLines b_Tabulator_totalLines 4 (some .int) (r_Tabulator_totalLines 0 0) [.ref b, .int (nI lv)] n f (fun r n' f' => r = some (.int (nI (tlN L lv))) ∧ n' = n ∧ f' = f) := by
  refine mk_Ct 10 false [some (.ref b), some (.int (nI lv)), none, none] (by decide) rfl (by decide) (Nat.le_of_ble_eq_true rfl) rfl ?_
  refine mz_go [4] 20 ?_
  simp only [mz_r0, mk_lit, mk_fin, mk_cat, mk_fit, mk_nar, mk_cls, mk_ty, mk_isr, List.mem_cons, List.not_mem_nil, or_false, or_true, false_or, true_or, Nat.reduceEqDiff, Nat.reduceAdd, Nat.reduceSub, Nat.reduceLT, Nat.reduceLeDiff, ↓reduceIte, if_true, if_false, List.getElem?_cons_zero, List.getElem?_cons_succ, List.set_cons_zero, List.set_cons_succ, List.length_cons, List.length_nil, mz_s1, mz_s2, mz_cl, true_and, and_true, false_and, and_false, List.append_nil, mk_b0, mk_b1, mk_b2, mk_bn, Value.int.injEq, Option.toList_some, Option.toList_none, List.cons_append, List.nil_append, Classical.not_not, Option.some.injEq, reduceCtorEq, ne_eq, not_true_eq_false, not_false_eq_true, false_implies, true_implies, ev_0, ev_43, mz_rl d_Tabulator_totalLines_0, mz_rl d_Tabulator_totalLines_1, mz_rl d_Tabulator_totalLines_2, mz_rl d_Tabulator_totalLines_3, nF_10]
  exact l_Tabulator_totalLines G X n f h hok hlv lv 0 (by omega)
end
section
def Tb (f : mz_H) (x : Nat) : Prop := f 16 = .inr (10, [.ref 17, .ref 18, .ref 120, .ref 122, .ref 124]) ∧ (∃ g, f 17 = aI 4 g) ∧ Pa f x ∧ x ≤ 100 ∧ (∃ cl, f 120 = .inr (6, [.int (nI 32), .ref 121, .int cl])) ∧ (∃ g, f 121 = aI 24 g) ∧ (∃ cl, f 122 = .inr (6, [.int (nI 32), .ref 123, .int cl])) ∧ (∃ g, f 123 = aI 24 g) ∧ (∃ cl, f 124 = .inr (6, [.int (nI 64), .ref 125, .int cl])) ∧ (∃ g, f 125 = aI 24 g)
/-- what a card has brought to the entries, where nothing clashes -/
def En (f : mz_H) (F T t : Nat → Nat) (w : Nat) : Prop := ∃ g, f 125 = aI 24 g ∧ enOk g F T t w
/-- what a card has brought to its line, where nothing clashes -/
def Ln (f : mz_H) (F T t : Nat → Nat) (w : Nat) : Prop := ∃ g, f 123 = aI 24 g ∧ ∀ p, p < 24 → (if g p = -1 then nI 32 else g p) = nI (prN (arN F T t (32 + p) w))
/-- counters and paper, exactly -/
def TT (f : mz_H) (u : tT) : Prop := f 17 = aI 4 (fun j => nI (u.1 j)) ∧ f 18 = .inr (7, [.ref 19, .int (nI u.2.1)]) ∧ (∀ i, i < u.2.1 → ∃ g, f (20 + i) = aI 24 g ∧ ∀ p, p < 24 → g p = nI (u.2.2 i p)) ∧ u.2.1 ≤ 100 ∧ ∀ c, c < 4 → u.1 c < 1000000
def FrT (f F : mz_H) : Prop := ∀ z, z ≠ 17 → z ≠ 18 → (z < 20 ∨ 125 < z) → F z = f z
theorem FrT_rf {f : mz_H} : FrT f f := fun _ _ _ _ => rfl
theorem FrT_tr {f F H : mz_H} (h : FrT f F) (h2 : FrT F H) : FrT f H := fun z a b c => (h2 z a b c).trans (h z a b c)
theorem FrT_u {f F : mz_H} (h : FrT f F) {a : Nat} (ha : a = 17 ∨ a = 18 ∨ 20 ≤ a ∧ a ≤ 125) (x : mz_C) : FrT f (mz_u F a x) := fun z z2 z3 z4 => by
  rw [mz_u_n (by omega)]; exact h z z2 z3 z4
def FrL (f F : mz_H) : Prop := ∀ z, z ≠ 4 → z ≠ 17 → z ≠ 18 → (z < 20 ∨ 125 < z) → F z = f z
theorem FrL_4 {f F : mz_H} (h : FrT f F) (x : mz_C) : FrL f (mz_u F 4 x) := fun z z1 z2 z3 z4 => by
  rw [mz_u_n z1]; exact h z z2 z3 z4
theorem T4 {f F : mz_H} (h : FrT f F) : F 4 = f 4 := h 4 (by decide) (by decide) (by decide)
theorem Bd_T {f H : mz_H} (h : FrT f H) {b w : Nat} {F T L : Nat → Nat} (hB : Bd f b w F T L) (hb : 126 < b) : Bd H b w F T L := by
  unfold Bd
  rw [h b (by omega) (by omega) (by omega), h (b + 1) (by omega) (by omega) (by omega), h (b + 2) (by omega) (by omega) (by omega), h (b + 3) (by omega) (by omega) (by omega)]
  exact hB
theorem Cd_T {f H : mz_H} (h : FrT f H) {K : Nat} {s : Nat → Nat → Nat} (hC : Cd f K s) : Cd H K s := fun k hk => by
  rw [h (172 + 2 * k) (by omega) (by omega) (by omega), h (173 + 2 * k) (by omega) (by omega) (by omega)]
  exact hC k hk
theorem E_T {f H : mz_H} (h : FrT f H) (hE : f 1000000000001 = mz_d) : H 1000000000001 = mz_d := by
  rw [h _ (by decide) (by decide) (by decide)]; exact hE
theorem Tb_17 {f : mz_H} {x : Nat} (h : Tb f x) (g : Nat → Int32) : Tb (mz_u f 17 (aI 4 g)) x := by
  obtain ⟨t1, t2, t3, t4, t5, t6, t7, t8, t9, t10⟩ := h
  refine ⟨?_, ⟨g, mz_u_s _ _ _⟩, Pa_u t3 (by decide) _, t4, ?_, ?_, ?_, ?_, ?_, ?_⟩ <;> rw [mz_u_n (by decide)] <;> assumption
theorem Tb_4 {f : mz_H} {x : Nat} (h : Tb f x) (y : mz_C) : Tb (mz_u f 4 y) x := by
  obtain ⟨t1, t2, t3, t4, t5, t6, t7, t8, t9, t10⟩ := h
  refine ⟨?_, ?_, Pa_u t3 (by decide) _, t4, ?_, ?_, ?_, ?_, ?_, ?_⟩ <;> rw [mz_u_n (by decide)] <;> assumption
theorem Tb_120 {f : mz_H} {x : Nat} (h : Tb f x) (g : Nat → Int32) (cl : Int32) : Tb (jH f 120 121 32 24 g cl) x := by
  obtain ⟨t1, t2, t3, t4, t5, t6, t7, t8, t9, t10⟩ := h
  unfold jH
  refine ⟨?_, ?_, Pa_u (Pa_u t3 (by decide) _) (by decide) _, t4, ⟨cl, mz_u_s _ _ _⟩, ⟨g, by rw [mz_u_n (by decide)]; exact mz_u_s _ _ _⟩, ?_, ?_, ?_, ?_⟩ <;> rw [mz_u_n (by decide), mz_u_n (by decide)] <;> assumption
theorem Tb_122 {f : mz_H} {x : Nat} (h : Tb f x) (g : Nat → Int32) (cl : Int32) : Tb (jH f 122 123 32 24 g cl) x := by
  obtain ⟨t1, t2, t3, t4, t5, t6, t7, t8, t9, t10⟩ := h
  unfold jH
  refine ⟨?_, ?_, Pa_u (Pa_u t3 (by decide) _) (by decide) _, t4, ?_, ?_, ⟨cl, mz_u_s _ _ _⟩, ⟨g, by rw [mz_u_n (by decide)]; exact mz_u_s _ _ _⟩, ?_, ?_⟩ <;> rw [mz_u_n (by decide), mz_u_n (by decide)] <;> assumption
theorem Tb_124 {f : mz_H} {x : Nat} (h : Tb f x) (g : Nat → Int32) (cl : Int32) : Tb (jH f 124 125 64 24 g cl) x := by
  obtain ⟨t1, t2, t3, t4, t5, t6, t7, t8, t9, t10⟩ := h
  unfold jH
  refine ⟨?_, ?_, Pa_u (Pa_u t3 (by decide) _) (by decide) _, t4, ?_, ?_, ?_, ?_, ⟨cl, mz_u_s _ _ _⟩, ⟨g, by rw [mz_u_n (by decide)]; exact mz_u_s _ _ _⟩⟩ <;> rw [mz_u_n (by decide), mz_u_n (by decide)] <;> assumption
theorem FrT_jH {f F : mz_H} (h : FrT f F) {j ja q N : Nat} {g : Nat → Int32} {cl : Int32} (hj : 20 ≤ j ∧ j ≤ 125) (hja : 20 ≤ ja ∧ ja ≤ 125) : FrT f (jH F j ja q N g cl) := FrT_u (FrT_u h (by omega) _) (by omega) _
theorem En_o {f H : mz_H} {F T t : Nat → Nat} {w : Nat} (h : En f F T t w) (e : H 125 = f 125) : En H F T t w := by
  obtain ⟨g, h1, h2⟩ := h; exact ⟨g, e.trans h1, h2⟩
theorem Ln_o {f H : mz_H} {F T t : Nat → Nat} {w : Nat} (h : Ln f F T t w) (e : H 123 = f 123) : Ln H F T t w := by
  obtain ⟨g, h1, h2⟩ := h; exact ⟨g, e.trans h1, h2⟩
theorem TT_eq {f F : mz_H} {u : tT} (h : TT f u) (he : ∀ q, q = 17 ∨ q = 18 ∨ (20 ≤ q ∧ q < 120) → F q = f q) : TT F u := by
  obtain ⟨h1, h2, h3, h4, h5⟩ := h
  refine ⟨(he 17 (by decide)).trans h1, (he 18 (by decide)).trans h2, fun i hi => ?_, h4, h5⟩
  obtain ⟨g, a, b⟩ := h3 i hi
  exact ⟨g, (he (20 + i) (by omega)).trans a, b⟩
theorem TT_17 {f : mz_H} {u : tT} (h : TT f u) {cm : Nat → Nat} (hc : ∀ c, c < 4 → cm c < 1000000) : TT (mz_u f 17 (aI 4 (fun j => nI (cm j)))) (cm, u.2) := by
  obtain ⟨h1, h2, h3, h4, h5⟩ := h
  refine ⟨mz_u_s _ _ _, (mz_u_n (by decide)).trans h2, fun i hi => ?_, h4, hc⟩
  obtain ⟨g, a, b⟩ := h3 i hi
  exact ⟨g, (mz_u_n (by omega)).trans a, b⟩
theorem TT_pr {f F : mz_H} {u : tT} {gr : Nat → Int32} {r : Nat → Nat} (h : TT f u) (hx : u.2.1 < 100) (hF : ∀ z, z ≠ 18 → z ≠ 20 + u.2.1 → F z = f z) (h18 : F 18 = .inr (7, [.ref 19, .int (nI (u.2.1 + 1))])) (hr : F (20 + u.2.1) = aI 24 gr) (hg : ∀ p, p < 24 → gr p = nI (r p)) : TT F (u.1, u.2.1 + 1, va_up u.2.2 u.2.1 r) := by
  obtain ⟨h1, h2, h3, h4, h5⟩ := h
  refine ⟨(hF 17 (by decide) (by omega)).trans h1, h18, fun i hi => ?_, hx, h5⟩
  have hi' : i < u.2.1 + 1 := hi
  by_cases e : i = u.2.1
  · subst e
    refine ⟨gr, hr, fun p hp => ?_⟩
    show gr p = nI (va_up u.2.2 u.2.1 r u.2.1 p)
    rw [va_up_self]; exact hg p hp
  · obtain ⟨g, a, b⟩ := h3 i (by omega)
    refine ⟨g, (hF _ (by omega) (by omega)).trans a, fun p hp => ?_⟩
    show g p = nI (va_up u.2.2 u.2.1 r i p)
    rw [va_up_ne _ _ e]; exact b p hp
/-- the counters of a level, up to k, at 0 -/
def clK (L : Nat → Nat) (lv k : Nat) (cn : Nat → Nat) : Nat → Nat := fun c => if c < k ∧ L c = lv then 0 else cn c
theorem clK_1 {L cn : Nat → Nat} {lv k : Nat} (h : L k = lv) : va_up (clK L lv k cn) k 0 = clK L lv (k + 1) cn := by
  funext c
  unfold va_up clK
  by_cases e : c = k
  · rw [if_pos e, if_pos ⟨by omega, by rw [e]; exact h⟩]
  · rw [if_neg e]
    by_cases e2 : c < k ∧ L c = lv
    · rw [if_pos e2, if_pos ⟨by omega, e2.2⟩]
    · rw [if_neg e2, if_neg (fun z => e2 ⟨by omega, z.2⟩)]
theorem clK_0 {L cn : Nat → Nat} {lv k : Nat} (h : ¬ L k = lv) : clK L lv (k + 1) cn = clK L lv k cn := by
  funext c
  unfold clK
  by_cases e2 : c < k ∧ L c = lv
  · rw [if_pos e2, if_pos ⟨by omega, e2.2⟩]
  · rw [if_neg e2, if_neg (fun z => by
      by_cases e : c = k
      · exact h (by rw [← e]; exact z.2)
      · exact e2 ⟨by omega, z.2⟩)]
theorem clK_z (L cn : Nat → Nat) (lv : Nat) : clK L lv 0 cn = cn := by
  funext c
  unfold clK
  rw [if_neg (fun z => Nat.not_lt_zero _ z.1)]
def adK (cn e : Nat → Nat) (k : Nat) : Nat → Nat := fun c => if c < k then cn c + e c else cn c
theorem adK_k (cn e : Nat → Nat) (k : Nat) : adK cn e k k = cn k := if_neg (Nat.lt_irrefl _)
theorem adK_1 (cn e : Nat → Nat) (k : Nat) : va_up (adK cn e k) k (cn k + e k) = adK cn e (k + 1) := by
  funext c
  unfold va_up adK
  by_cases h : c = k
  · rw [if_pos h, if_pos (by omega), h]
  · rw [if_neg h]
    by_cases e2 : c < k
    · rw [if_pos e2, if_pos (by omega)]
    · rw [if_neg e2, if_neg (by omega)]
theorem adK_z (cn e : Nat → Nat) : adK cn e 0 = cn := by
  funext c
  unfold adK
  rw [if_neg (Nat.not_lt_zero _)]
theorem Tb_pr {f F : mz_H} {x : Nat} (h : Tb f x) (hx : x < 100) (hF : ∀ z, z ≠ 18 → z ≠ 20 + x → F z = f z) (hP : Pa F (x + 1)) : Tb F (x + 1) := by
  obtain ⟨t1, t2, t3, t4, t5, t6, t7, t8, t9, t10⟩ := h
  refine ⟨?_, ?_, hP, hx, ?_, ?_, ?_, ?_, ?_, ?_⟩ <;> rw [hF _ (by omega) (by omega)] <;> assumption
theorem FrT_pr {f F : mz_H} {x : Nat} (hx : x < 100) (hF : ∀ z, z ≠ 18 → z ≠ 20 + x → F z = f z) : FrT f F := fun z z2 z3 z4 => hF z z3 (by omega)
theorem l_Tabulator_clearCounters (G : mz_G) (X : mz_E) (n : Nat) (f : mz_H) {b w lv : Nat} {F T L cn : Nat → Nat} {t1 t2 t3 t4 : Value} (h16 : f 16 = .inr (10, [.ref 17, t1, t2, t3, t4])) (hB : Bd f b w F T L) (hok : BdOk w F T L) (hb : 126 < b) (hlv : lv < 2 ^ 31) :
    ∀ m k, k + m = 4 → mz_X G X 10 false b_Tabulator_clearCounters 4 none (r_Tabulator_clearCounters 0 0) (fun v n' f' => v = none ∧ n' = n ∧ f' = mz_u f 17 (aI 4 (fun j => nI (clK L lv 4 cn j)))) (fun _ _ _ => False) 2 [some (.ref 16), some (.ref b), some (.int (nI lv)), some (.int (nI k))] [] 0 0 n (mz_u f 17 (aI 4 (fun j => nI (clK L lv k cn j)))) := by
  intro m
  induction m with
  | zero =>
    intro k hk
    have : k = 4 := by omega
    subst this
    refine mz_go [2] 20 ?_
    simp only [mz_r0, mk_lit, mk_fin, mk_cat, mk_fit, mk_nar, mk_cls, mk_ty, mk_isr, List.mem_cons, List.not_mem_nil, or_false, or_true, false_or, true_or, Nat.reduceEqDiff, Nat.reduceAdd, Nat.reduceSub, Nat.reduceLT, Nat.reduceLeDiff, ↓reduceIte, if_true, if_false, List.getElem?_cons_zero, List.getElem?_cons_succ, List.set_cons_zero, List.set_cons_succ, List.length_cons, List.length_nil, mz_s1, mz_s2, mz_cl, true_and, and_true, false_and, and_false, List.append_nil, mk_b0, mk_b1, mk_b2, mk_bn, Value.int.injEq, Option.toList_some, Option.toList_none, List.cons_append, List.nil_append, Classical.not_not, Option.some.injEq, reduceCtorEq, ne_eq, not_true_eq_false, not_false_eq_true, false_implies, true_implies, ev_37, ev_0, ev_56, ev_41, ev_79, ft_1_2, fn_1_2, ev_68, ev_52, ft_10_0, fn_10_0, ev_72, ev_48, ev_61, ev_67, mz_rl d_Tabulator_clearCounters_2, mz_rl d_Tabulator_clearCounters_3, mz_rl d_Tabulator_clearCounters_4, mz_rl d_Tabulator_clearCounters_7, mz_rl d_Tabulator_clearCounters_8, mz_rl d_Tabulator_clearCounters_11, mz_rl d_Tabulator_clearCounters_12, mz_rl d_Tabulator_clearCounters_13, mz_rl d_Tabulator_clearCounters_14, mz_rl d_Tabulator_clearCounters_17, mz_rl d_Tabulator_clearCounters_18, mz_rl d_Tabulator_clearCounters_21, mz_rl d_Tabulator_clearCounters_22, mz_rl d_Tabulator_clearCounters_23, mz_rl d_Tabulator_clearCounters_24, mz_rl d_Tabulator_clearCounters_27, mz_rl d_Tabulator_clearCounters_30, j_Tabulator_clearCounters_4, j_Tabulator_clearCounters_14, j_Tabulator_clearCounters_27, nF_10, mk_le, mk_ti, Int.le_refl]
  | succ m ih =>
    intro k hk
    have e := hok.2.2 k (by omega)
    have ih' := ih (k + 1) (by omega)
    by_cases h : L k = lv
    · rw [← clK_1 h] at ih'
      refine mz_go [2] 40 ?_
      simp only [mz_r0, mk_lit, mk_fin, mk_cat, mk_fit, mk_nar, mk_cls, mk_ty, mk_isr, List.mem_cons, List.not_mem_nil, or_false, or_true, false_or, true_or, Nat.reduceEqDiff, Nat.reduceAdd, Nat.reduceSub, Nat.reduceLT, Nat.reduceLeDiff, ↓reduceIte, if_true, if_false, List.getElem?_cons_zero, List.getElem?_cons_succ, List.set_cons_zero, List.set_cons_succ, List.length_cons, List.length_nil, mz_s1, mz_s2, mz_cl, true_and, and_true, false_and, and_false, List.append_nil, mk_b0, mk_b1, mk_b2, mk_bn, Value.int.injEq, Option.toList_some, Option.toList_none, List.cons_append, List.nil_append, Classical.not_not, Option.some.injEq, reduceCtorEq, ne_eq, not_true_eq_false, not_false_eq_true, false_implies, true_implies, ev_37, ev_0, ev_56, ev_41, ev_79, ft_1_2, fn_1_2, ev_68, ev_52, ft_10_0, fn_10_0, ev_72, ev_48, ev_61, ev_67, mz_rl d_Tabulator_clearCounters_2, mz_rl d_Tabulator_clearCounters_3, mz_rl d_Tabulator_clearCounters_4, mz_rl d_Tabulator_clearCounters_7, mz_rl d_Tabulator_clearCounters_8, mz_rl d_Tabulator_clearCounters_11, mz_rl d_Tabulator_clearCounters_12, mz_rl d_Tabulator_clearCounters_13, mz_rl d_Tabulator_clearCounters_14, mz_rl d_Tabulator_clearCounters_17, mz_rl d_Tabulator_clearCounters_18, mz_rl d_Tabulator_clearCounters_21, mz_rl d_Tabulator_clearCounters_22, mz_rl d_Tabulator_clearCounters_23, mz_rl d_Tabulator_clearCounters_24, mz_rl d_Tabulator_clearCounters_27, mz_rl d_Tabulator_clearCounters_30, j_Tabulator_clearCounters_4, j_Tabulator_clearCounters_14, j_Tabulator_clearCounters_27, nF_10, nI_leI (show 4 < 2 ^ 31 by decide) (show k < 2 ^ 31 by omega), show ¬ 4 ≤ k by omega, hB.1, hB.2.2.2, h16, mz_u_n (show b ≠ 17 by omega), mz_u_n (show b + 3 ≠ 17 by omega), mz_u_n (show 16 ≠ 17 by decide), mz_u_s, mz_uu, vp_in_nI (show k < 4 by omega) (show 4 < 2 ^ 31 by decide), nI_clamp (show k < 2 ^ 31 by omega), nI_eq (show L k < 2 ^ 31 by omega) hlv, eq_true h, nI_add, upd_nI]
      exact ih'
    · rw [clK_0 h] at ih'
      refine mz_go [2] 40 ?_
      simp only [mz_r0, mk_lit, mk_fin, mk_cat, mk_fit, mk_nar, mk_cls, mk_ty, mk_isr, List.mem_cons, List.not_mem_nil, or_false, or_true, false_or, true_or, Nat.reduceEqDiff, Nat.reduceAdd, Nat.reduceSub, Nat.reduceLT, Nat.reduceLeDiff, ↓reduceIte, if_true, if_false, List.getElem?_cons_zero, List.getElem?_cons_succ, List.set_cons_zero, List.set_cons_succ, List.length_cons, List.length_nil, mz_s1, mz_s2, mz_cl, true_and, and_true, false_and, and_false, List.append_nil, mk_b0, mk_b1, mk_b2, mk_bn, Value.int.injEq, Option.toList_some, Option.toList_none, List.cons_append, List.nil_append, Classical.not_not, Option.some.injEq, reduceCtorEq, ne_eq, not_true_eq_false, not_false_eq_true, false_implies, true_implies, ev_37, ev_0, ev_56, ev_41, ev_79, ft_1_2, fn_1_2, ev_68, ev_52, ft_10_0, fn_10_0, ev_72, ev_48, ev_61, ev_67, mz_rl d_Tabulator_clearCounters_2, mz_rl d_Tabulator_clearCounters_3, mz_rl d_Tabulator_clearCounters_4, mz_rl d_Tabulator_clearCounters_7, mz_rl d_Tabulator_clearCounters_8, mz_rl d_Tabulator_clearCounters_11, mz_rl d_Tabulator_clearCounters_12, mz_rl d_Tabulator_clearCounters_13, mz_rl d_Tabulator_clearCounters_14, mz_rl d_Tabulator_clearCounters_17, mz_rl d_Tabulator_clearCounters_18, mz_rl d_Tabulator_clearCounters_21, mz_rl d_Tabulator_clearCounters_22, mz_rl d_Tabulator_clearCounters_23, mz_rl d_Tabulator_clearCounters_24, mz_rl d_Tabulator_clearCounters_27, mz_rl d_Tabulator_clearCounters_30, j_Tabulator_clearCounters_4, j_Tabulator_clearCounters_14, j_Tabulator_clearCounters_27, nF_10, nI_leI (show 4 < 2 ^ 31 by decide) (show k < 2 ^ 31 by omega), show ¬ 4 ≤ k by omega, hB.1, hB.2.2.2, h16, mz_u_n (show b ≠ 17 by omega), mz_u_n (show b + 3 ≠ 17 by omega), mz_u_n (show 16 ≠ 17 by decide), mz_u_s, mz_uu, vp_in_nI (show k < 4 by omega) (show 4 < 2 ^ 31 by decide), nI_clamp (show k < 2 ^ 31 by omega), nI_eq (show L k < 2 ^ 31 by omega) hlv, eq_false h, nI_add]
      exact ih'
theorem c_Tabulator_clearCounters (G : mz_G) (X : mz_E) (n : Nat) (f : mz_H) {b w lv x : Nat} {F T L cn : Nat → Nat} (hT : Tb f x) (h17 : f 17 = aI 4 (fun j => nI (cn j))) (hB : Bd f b w F T L) (hok : BdOk w F T L) (hb : 126 < b) (hlv : lv < 2 ^ 31) :
    mz_Ct G X y_Tabulator_clearCounters b_Tabulator_clearCounters 4 none (r_Tabulator_clearCounters 0 0) [.ref 16, .ref b, .int (nI lv)] n f (fun v n' f' => v = none ∧ n' = n ∧ f' = mz_u f 17 (aI 4 (fun j => nI (clK L lv 4 cn j)))) := by
  refine mk_Ct 10 false [some (.ref 16), some (.ref b), some (.int (nI lv)), none] (by decide) rfl (by decide) (Nat.le_of_ble_eq_true rfl) rfl ?_
  refine mz_go [2] 20 ?_
  simp only [mz_r0, mk_lit, mk_fin, mk_cat, mk_fit, mk_nar, mk_cls, mk_ty, mk_isr, List.mem_cons, List.not_mem_nil, or_false, or_true, false_or, true_or, Nat.reduceEqDiff, Nat.reduceAdd, Nat.reduceSub, Nat.reduceLT, Nat.reduceLeDiff, ↓reduceIte, if_true, if_false, List.getElem?_cons_zero, List.getElem?_cons_succ, List.set_cons_zero, List.set_cons_succ, List.length_cons, List.length_nil, mz_s1, mz_s2, mz_cl, true_and, and_true, false_and, and_false, List.append_nil, mk_b0, mk_b1, mk_b2, mk_bn, Value.int.injEq, Option.toList_some, Option.toList_none, List.cons_append, List.nil_append, Classical.not_not, Option.some.injEq, reduceCtorEq, ne_eq, not_true_eq_false, not_false_eq_true, false_implies, true_implies, ev_0, ev_43, mz_rl d_Tabulator_clearCounters_0, mz_rl d_Tabulator_clearCounters_1, nF_10]
  have := l_Tabulator_clearCounters G X n f (cn := cn) hT.1 hB hok hb hlv 4 0 (by omega)
  rw [clK_z, mz_ui h17] at this
  exact this
theorem l_Tabulator_doCard (G : mz_G) (n : Nat) (f : mz_H) {x w : Nat} {F T t cn : Nat → Nat} {w1 : Int32} (hE : f 1000000000001 = mz_d) (hT : Tb f x) (hen : En f F T t w) (post : Option Value → Nat → mz_H → Prop) (hp : post none n (mz_u f 17 (aI 4 (fun j => nI (adK cn (fun c => enN F T t w c 6) 4 j))))) :
    ∀ m k, k + m = 4 → mz_X G mk_P 10 false b_Tabulator_doCard 3 none (r_Tabulator_doCard 0 0) post (fun _ _ _ => False) 17 [some (.ref 16), some (.int w1), some (.int (nI k))] [] 0 0 n (mz_u f 17 (aI 4 (fun j => nI (adK cn (fun c => enN F T t w c 6) k j)))) := by
  obtain ⟨g5, k5, hg5⟩ := hen
  obtain ⟨cl, k4⟩ := hT.2.2.2.2.2.2.2.2.1
  have h16 := hT.1
  intro m
  induction m with
  | zero =>
    intro k hk
    have : k = 4 := by omega
    subst this
    refine mz_go [17] 20 ?_
    simp only [mz_r0, mk_lit, mk_fin, mk_cat, mk_fit, mk_nar, mk_cls, mk_ty, mk_isr, List.mem_cons, List.not_mem_nil, or_false, or_true, false_or, true_or, Nat.reduceEqDiff, Nat.reduceAdd, Nat.reduceSub, Nat.reduceLT, Nat.reduceLeDiff, ↓reduceIte, if_true, if_false, List.getElem?_cons_zero, List.getElem?_cons_succ, List.set_cons_zero, List.set_cons_succ, List.length_cons, List.length_nil, mz_s1, mz_s2, mz_cl, true_and, and_true, false_and, and_false, List.append_nil, mk_b0, mk_b1, mk_b2, mk_bn, Value.int.injEq, Option.toList_some, Option.toList_none, List.cons_append, List.nil_append, Classical.not_not, Option.some.injEq, reduceCtorEq, ne_eq, not_true_eq_false, not_false_eq_true, false_implies, true_implies, ev_37, ev_0, ev_56, ev_41, ev_79, ft_10_0, fn_10_0, ev_35, ev_68, ev_67, mz_rl d_Tabulator_doCard_17, mz_rl d_Tabulator_doCard_18, mz_rl d_Tabulator_doCard_19, mz_rl d_Tabulator_doCard_22, mz_rl d_Tabulator_doCard_23, mz_rl d_Tabulator_doCard_26, mz_rl d_Tabulator_doCard_27, mz_rl d_Tabulator_doCard_28, mz_rl d_Tabulator_doCard_29, mz_rl d_Tabulator_doCard_30, mz_rl d_Tabulator_doCard_31, mz_rl d_Tabulator_doCard_42, j_Tabulator_doCard_19, nF_10, mk_le, mk_ti, Int.le_refl]
    exact hp
  | succ m ih =>
    intro k hk
    have ih' := ih (k + 1) (by omega)
    rw [← adK_1] at ih'
    refine mz_go [31] 40 ?_
    simp only [mz_r0, mk_lit, mk_fin, mk_cat, mk_fit, mk_nar, mk_cls, mk_ty, mk_isr, List.mem_cons, List.not_mem_nil, or_false, or_true, false_or, true_or, Nat.reduceEqDiff, Nat.reduceAdd, Nat.reduceSub, Nat.reduceLT, Nat.reduceLeDiff, ↓reduceIte, if_true, if_false, List.getElem?_cons_zero, List.getElem?_cons_succ, List.set_cons_zero, List.set_cons_succ, List.length_cons, List.length_nil, mz_s1, mz_s2, mz_cl, true_and, and_true, false_and, and_false, List.append_nil, mk_b0, mk_b1, mk_b2, mk_bn, Value.int.injEq, Option.toList_some, Option.toList_none, List.cons_append, List.nil_append, Classical.not_not, Option.some.injEq, reduceCtorEq, ne_eq, not_true_eq_false, not_false_eq_true, false_implies, true_implies, ev_37, ev_0, ev_56, ev_41, ev_79, ft_10_0, fn_10_0, ev_35, ev_68, ev_67, mz_rl d_Tabulator_doCard_17, mz_rl d_Tabulator_doCard_18, mz_rl d_Tabulator_doCard_19, mz_rl d_Tabulator_doCard_22, mz_rl d_Tabulator_doCard_23, mz_rl d_Tabulator_doCard_26, mz_rl d_Tabulator_doCard_27, mz_rl d_Tabulator_doCard_28, mz_rl d_Tabulator_doCard_29, mz_rl d_Tabulator_doCard_30, mz_rl d_Tabulator_doCard_42, j_Tabulator_doCard_19, nF_10, nI_leI (show 4 < 2 ^ 31 by decide) (show k < 2 ^ 31 by omega), show ¬ 4 ≤ k by omega, h16, mz_u_n (show 16 ≠ 17 by decide), mz_u_s, vp_in_nI (show k < 4 by omega) (show 4 < 2 ^ 31 by decide), nI_clamp (show k < 2 ^ 31 by omega)]
    refine mz_callV (by simp only [d_Tabulator_doCard_31, Nat.reduceAdd]) g_10_123 rfl (fun _ _ h => h) (c_Tabulator_entered G n (mz_u f 17 (aI 4 (fun j => nI (adK cn (fun c => enN F T t w c 6) k j)))) (k := k) (show _ = mz_d by rw [mz_u_n (by decide)]; exact hE) (show _ = (Sum.inr (10, [.ref 17, .ref 18, .ref 120, .ref 122, .ref 124]) : mz_C) by rw [mz_u_n (by decide)]; exact h16) (show _ = (Sum.inr (6, [.int (nI 64), .ref 125, .int cl]) : mz_C) by rw [mz_u_n (by decide)]; exact k4) (show _ = aI 24 g5 by rw [mz_u_n (by decide)]; exact k5) (show k < 4 by omega) hg5) (show _ = (Sum.inr (10, [.ref 17, .ref 18, .ref 120, .ref 122, .ref 124]) : mz_C) by rw [mz_u_n (by decide)]; exact h16) rfl rfl (by decide) (Nat.le_of_ble_eq_true rfl) rfl ?_; intro v_ n_ f_ h_; obtain ⟨rfl, hn_, hf_⟩ := h_; replace hn_ := hn_.symm; replace hf_ := hf_.symm; subst hn_; subst hf_
    refine mz_go [17] 40 ?_
    simp only [mz_r0, mk_lit, mk_fin, mk_cat, mk_fit, mk_nar, mk_cls, mk_ty, mk_isr, List.mem_cons, List.not_mem_nil, or_false, or_true, false_or, true_or, Nat.reduceEqDiff, Nat.reduceAdd, Nat.reduceSub, Nat.reduceLT, Nat.reduceLeDiff, ↓reduceIte, if_true, if_false, List.getElem?_cons_zero, List.getElem?_cons_succ, List.set_cons_zero, List.set_cons_succ, List.length_cons, List.length_nil, mz_s1, mz_s2, mz_cl, true_and, and_true, false_and, and_false, List.append_nil, mk_b0, mk_b1, mk_b2, mk_bn, Value.int.injEq, Option.toList_some, Option.toList_none, List.cons_append, List.nil_append, Classical.not_not, Option.some.injEq, reduceCtorEq, ne_eq, not_true_eq_false, not_false_eq_true, false_implies, true_implies, ev_5, ev_72, ev_48, ev_61, mz_rl d_Tabulator_doCard_34, mz_rl d_Tabulator_doCard_35, mz_rl d_Tabulator_doCard_36, mz_rl d_Tabulator_doCard_39, j_Tabulator_doCard_39, nF_10, mz_u_s, mz_uu, vp_in_nI (show k < 4 by omega) (show 4 < 2 ^ 31 by decide), nI_clamp (show k < 2 ^ 31 by omega), adK_k, nI_add, upd_nI]
    exact ih'
theorem c_Tabulator_doCard (G : mz_G) (n : Nat) (f : mz_H) {w : Nat} {F T t : Nat → Nat} {u : tT} (P : Bool) (hE : f 1000000000001 = mz_d) (hT : Tb f u.2.1) (hX : TT f u) (hen : En f F T t w) (hln : P = true → Ln f F T t w) (hov : ∀ c, c < 4 → u.1 c + enN F T t w c 6 < 1000000) (hx : u.2.1 + (if P = true then 1 else 0) ≤ 100) :
    mz_Ct G mk_P y_Tabulator_doCard b_Tabulator_doCard 3 none (r_Tabulator_doCard 0 0) [.ref 16, .int (mk_b (P = true))] n f (fun v n' f' => v = none ∧ n' = n ∧ Tb f' (caS F T t w P u).2.1 ∧ TT f' (caS F T t w P u) ∧ FrT f f') := by
  have h16 := hT.1
  have hb4 : ∀ c, c < 4 → adK u.1 (fun c => enN F T t w c 6) 4 c < 1000000 := fun c hc => by
    unfold adK; rw [if_pos hc]; exact hov c hc
  cases P with
  | true =>
    have hx' : u.2.1 + 1 ≤ 100 := hx
    obtain ⟨g, k2, hg⟩ := hln rfl
    rw [mk_b_t (rfl : (true = true))]
    obtain ⟨cl, k1⟩ := hT.2.2.2.2.2.2.1
    refine mk_Ct 10 false [some (.ref 16), some (.int (nI 1)), none] (by decide) rfl (by decide) (Nat.le_of_ble_eq_true rfl) rfl ?_
    refine mz_go [12] 20 ?_
    simp only [mz_r0, mk_lit, mk_fin, mk_cat, mk_fit, mk_nar, mk_cls, mk_ty, mk_isr, List.mem_cons, List.not_mem_nil, or_false, or_true, false_or, true_or, Nat.reduceEqDiff, Nat.reduceAdd, Nat.reduceSub, Nat.reduceLT, Nat.reduceLeDiff, ↓reduceIte, if_true, if_false, List.getElem?_cons_zero, List.getElem?_cons_succ, List.set_cons_zero, List.set_cons_succ, List.length_cons, List.length_nil, mz_s1, mz_s2, mz_cl, true_and, and_true, false_and, and_false, List.append_nil, mk_b0, mk_b1, mk_b2, mk_bn, Value.int.injEq, Option.toList_some, Option.toList_none, List.cons_append, List.nil_append, Classical.not_not, Option.some.injEq, reduceCtorEq, ne_eq, not_true_eq_false, not_false_eq_true, false_implies, true_implies, ev_37, ev_49, ev_41, ev_79, ft_10_1, fn_10_1, ft_10_3, fn_10_3, ev_0, ev_43, ev_56, ft_10_0, fn_10_0, ev_35, ev_68, ev_67, mz_rl d_Tabulator_doCard_0, mz_rl d_Tabulator_doCard_1, mz_rl d_Tabulator_doCard_4, mz_rl d_Tabulator_doCard_5, mz_rl d_Tabulator_doCard_8, mz_rl d_Tabulator_doCard_9, mz_rl d_Tabulator_doCard_15, mz_rl d_Tabulator_doCard_16, mz_rl d_Tabulator_doCard_17, mz_rl d_Tabulator_doCard_18, mz_rl d_Tabulator_doCard_19, mz_rl d_Tabulator_doCard_22, mz_rl d_Tabulator_doCard_23, mz_rl d_Tabulator_doCard_26, mz_rl d_Tabulator_doCard_27, mz_rl d_Tabulator_doCard_28, mz_rl d_Tabulator_doCard_29, mz_rl d_Tabulator_doCard_30, mz_rl d_Tabulator_doCard_31, mz_rl d_Tabulator_doCard_42, j_Tabulator_doCard_1, j_Tabulator_doCard_19, nF_10, h16, show ¬ nI 1 = 0 by decide]
    refine mz_callV (by simp only [d_Tabulator_doCard_12, Nat.reduceAdd]) g_10_143 rfl (fun _ _ h => h) (c_Paper_print G mk_P n f hT.2.2.1 (show u.2.1 < 100 by omega) k1 k2 (by decide) (by decide)) hT.2.2.1.1 rfl rfl (by decide) (Nat.le_of_ble_eq_true rfl) rfl ?_; rintro v_ n_ f_ ⟨rfl, rfl, hF, hPa, gr, hgr, hgv⟩
    have hT2 := Tb_pr hT (show u.2.1 < 100 by omega) hF hPa
    have hF2 := FrT_pr (show u.2.1 < 100 by omega) hF
    have hX2 := TT_pr (r := fun p => prN (arN F T t (32 + p) w)) hX (by omega) hF hPa.1 hgr (fun p hp => (hgv p hp).trans (hg p hp))
    refine mz_go [17] 20 ?_
    simp only [mz_r0, mk_lit, mk_fin, mk_cat, mk_fit, mk_nar, mk_cls, mk_ty, mk_isr, List.mem_cons, List.not_mem_nil, or_false, or_true, false_or, true_or, Nat.reduceEqDiff, Nat.reduceAdd, Nat.reduceSub, Nat.reduceLT, Nat.reduceLeDiff, ↓reduceIte, if_true, if_false, List.getElem?_cons_zero, List.getElem?_cons_succ, List.set_cons_zero, List.set_cons_succ, List.length_cons, List.length_nil, mz_s1, mz_s2, mz_cl, true_and, and_true, false_and, and_false, List.append_nil, mk_b0, mk_b1, mk_b2, mk_bn, Value.int.injEq, Option.toList_some, Option.toList_none, List.cons_append, List.nil_append, Classical.not_not, Option.some.injEq, reduceCtorEq, ne_eq, not_true_eq_false, not_false_eq_true, false_implies, true_implies, ev_0, ev_43, mz_rl d_Tabulator_doCard_15, mz_rl d_Tabulator_doCard_16, nF_10]
    have := l_Tabulator_doCard G n_ f_ (w1 := nI 1) (cn := u.1) (E_T hF2 hE) hT2 (En_o hen (hF _ (by decide) (by omega))) (fun v n' f' => v = none ∧ n' = n_ ∧ Tb f' (caS F T t w true u).2.1 ∧ TT f' (caS F T t w true u) ∧ FrT f f') ⟨rfl, rfl, Tb_17 hT2 _, TT_17 hX2 hb4, FrT_u hF2 (by decide) _⟩ 4 0 (by omega)
    rw [adK_z, mz_ui hX2.1] at this
    exact this
  | false =>
    rw [mk_b_f (show ¬ (false = true) by decide)]
    refine mk_Ct 10 false [some (.ref 16), some (.int (nI 0)), none] (by decide) rfl (by decide) (Nat.le_of_ble_eq_true rfl) rfl ?_
    refine mz_go [17] 20 ?_
    simp only [mz_r0, mk_lit, mk_fin, mk_cat, mk_fit, mk_nar, mk_cls, mk_ty, mk_isr, List.mem_cons, List.not_mem_nil, or_false, or_true, false_or, true_or, Nat.reduceEqDiff, Nat.reduceAdd, Nat.reduceSub, Nat.reduceLT, Nat.reduceLeDiff, ↓reduceIte, if_true, if_false, List.getElem?_cons_zero, List.getElem?_cons_succ, List.set_cons_zero, List.set_cons_succ, List.length_cons, List.length_nil, mz_s1, mz_s2, mz_cl, true_and, and_true, false_and, and_false, List.append_nil, mk_b0, mk_b1, mk_b2, mk_bn, Value.int.injEq, Option.toList_some, Option.toList_none, List.cons_append, List.nil_append, Classical.not_not, Option.some.injEq, reduceCtorEq, ne_eq, not_true_eq_false, not_false_eq_true, false_implies, true_implies, ev_37, ev_49, ev_41, ev_79, ft_10_1, fn_10_1, ft_10_3, fn_10_3, ev_0, ev_43, mz_rl d_Tabulator_doCard_0, mz_rl d_Tabulator_doCard_1, mz_rl d_Tabulator_doCard_4, mz_rl d_Tabulator_doCard_5, mz_rl d_Tabulator_doCard_8, mz_rl d_Tabulator_doCard_9, mz_rl d_Tabulator_doCard_12, mz_rl d_Tabulator_doCard_15, mz_rl d_Tabulator_doCard_16, j_Tabulator_doCard_1, nF_10, show (nI 0 = 0) = True from eq_true rfl]
    have := l_Tabulator_doCard G n f (w1 := nI 0) (cn := u.1) hE hT hen (fun v n' f' => v = none ∧ n' = n ∧ Tb f' (caS F T t w false u).2.1 ∧ TT f' (caS F T t w false u) ∧ FrT f f') ⟨rfl, rfl, Tb_17 hT _, TT_17 hX hb4, FrT_u FrT_rf (by decide) _⟩ 4 0 (by omega)
    rw [adK_z, mz_ui hX.1] at this
    exact this
theorem F56 {w : Nat} {F T L : Nat → Nat} (hok : BdOk w F T L) : ∀ k, k < w → F k < 56 := fun k hk => okF_lt (hok.2.1 k hk).1
theorem l_Tabulator_doTotals (G : mz_G) (n : Nat) (f : mz_H) {b w lv : Nat} {F T L : Nat → Nat} {u : tT} (hE : f 1000000000001 = mz_d) (hB : Bd f b w F T L) (hok : BdOk w F T L) (hb : 126 < b) (hlv : lv ≤ 4) (hbd : ∀ c, c < 4 → u.1 c < 1000000) (hcl : tcB F T L u.1 w lv = false) (hx : u.2.1 + tlN L lv ≤ 100) :
    ∀ m k H, k + m = lv → Tb H (toF F T L w k u).2.1 → TT H (toF F T L w k u) → FrT f H → (∀ z, 121 < z → H z = f z) → mz_X G mk_P 10 false b_Tabulator_doTotals 4 none (r_Tabulator_doTotals 0 0) (fun v n' f' => v = none ∧ n' = n ∧ Tb f' (toF F T L w lv u).2.1 ∧ TT f' (toF F T L w lv u) ∧ FrT f f' ∧ (∀ z, 121 < z → f' z = f z)) (fun _ _ _ => False) 2 [some (.ref 16), some (.ref b), some (.int (nI lv)), some (.int (nI k))] [] 0 0 n H := by
  intro m
  induction m with
  | zero =>
    intro k H hk hT hX hF hn
    have : k = lv := by omega
    subst this
    refine mz_go [2] 20 ?_
    simp only [mz_r0, mk_lit, mk_fin, mk_cat, mk_fit, mk_nar, mk_cls, mk_ty, mk_isr, List.mem_cons, List.not_mem_nil, or_false, or_true, false_or, true_or, Nat.reduceEqDiff, Nat.reduceAdd, Nat.reduceSub, Nat.reduceLT, Nat.reduceLeDiff, ↓reduceIte, if_true, if_false, List.getElem?_cons_zero, List.getElem?_cons_succ, List.set_cons_zero, List.set_cons_succ, List.length_cons, List.length_nil, mz_s1, mz_s2, mz_cl, true_and, and_true, false_and, and_false, List.append_nil, mk_b0, mk_b1, mk_b2, mk_bn, Value.int.injEq, Option.toList_some, Option.toList_none, List.cons_append, List.nil_append, Classical.not_not, Option.some.injEq, reduceCtorEq, ne_eq, not_true_eq_false, not_false_eq_true, false_implies, true_implies, ev_37, ev_56, ev_41, ev_67, mz_rl d_Tabulator_doTotals_2, mz_rl d_Tabulator_doTotals_3, mz_rl d_Tabulator_doTotals_4, mz_rl d_Tabulator_doTotals_7, mz_rl d_Tabulator_doTotals_8, mz_rl d_Tabulator_doTotals_9, mz_rl d_Tabulator_doTotals_51, j_Tabulator_doTotals_4, nF_10, nI_leI (show k < 2 ^ 31 by omega) (show k < 2 ^ 31 by omega), Nat.le_refl]
    exact ⟨hT, hX, hF, hn⟩
  | succ m ih =>
    intro k H hk hT hX hF hn
    have hBH := Bd_T hF hB hb
    have hEH := E_T hF hE
    have h16 := hT.1
    obtain ⟨cl, k1⟩ := hT.2.2.2.2.1
    obtain ⟨g, k2⟩ := hT.2.2.2.2.2.1
    have hmono := tlN_mono L (k + 1) m
    rw [show k + 1 + m = lv by omega] at hmono
    have hln := toF_ln (F := F) (T := T) (L := L) (w := w) (t := u) k
    have hvb := toF_lt (F := F) (T := T) (L := L) (w := w) hbd k
    have hcx : clX F T L (toF F T L w k u).1 k w 24 = false := by
      rw [clX_c (F56 hok) (cm := u.1) (fun c hc e => by rw [toF_cn hc, if_neg (by omega)])]
      cases h : clX F T L u.1 k w 24 with
      | false => rfl
      | true =>
        have := (tcB_iff lv).mpr ⟨k, by omega, h⟩
        rw [hcl] at this; cases this
    have enext : toF F T L w (k + 1) u = if hcB L k = true then (clr L k (toF F T L w k u).1, (toF F T L w k u).2.1 + 1, va_up (toF F T L w k u).2.2 (toF F T L w k u).2.1 (fun p => prN (arX F T L (toF F T L w k u).1 k (32 + p) w))) else toF F T L w k u := rfl
    have ihk := ih (k + 1)
    rw [enext] at ihk
    generalize toF F T L w k u = v at hT hX hln hvb hcx enext ihk
    have k7 := hX.1
    refine mz_go [9] 20 ?_
    simp only [mz_r0, mk_lit, mk_fin, mk_cat, mk_fit, mk_nar, mk_cls, mk_ty, mk_isr, List.mem_cons, List.not_mem_nil, or_false, or_true, false_or, true_or, Nat.reduceEqDiff, Nat.reduceAdd, Nat.reduceSub, Nat.reduceLT, Nat.reduceLeDiff, ↓reduceIte, if_true, if_false, List.getElem?_cons_zero, List.getElem?_cons_succ, List.set_cons_zero, List.set_cons_succ, List.length_cons, List.length_nil, mz_s1, mz_s2, mz_cl, true_and, and_true, false_and, and_false, List.append_nil, mk_b0, mk_b1, mk_b2, mk_bn, Value.int.injEq, Option.toList_some, Option.toList_none, List.cons_append, List.nil_append, Classical.not_not, Option.some.injEq, reduceCtorEq, ne_eq, not_true_eq_false, not_false_eq_true, false_implies, true_implies, ev_37, ev_56, ev_41, ev_67, mz_rl d_Tabulator_doTotals_2, mz_rl d_Tabulator_doTotals_3, mz_rl d_Tabulator_doTotals_4, mz_rl d_Tabulator_doTotals_7, mz_rl d_Tabulator_doTotals_8, mz_rl d_Tabulator_doTotals_51, j_Tabulator_doTotals_4, nF_10, nI_leI (show lv < 2 ^ 31 by omega) (show k < 2 ^ 31 by omega), show ¬ lv ≤ k by omega]
    refine mz_callV (by simp only [d_Tabulator_doTotals_9, Nat.reduceAdd]) g_10_140 rfl (fun _ _ h => h) (c_Board_hasCounterOf G mk_P n H hBH hok (show k < 2 ^ 31 by omega)) hBH.1 rfl rfl (by decide) (Nat.le_of_ble_eq_true rfl) rfl ?_; intro v_ n_ f_ h_; obtain ⟨rfl, hn_, hf_⟩ := h_; replace hn_ := hn_.symm; replace hf_ := hf_.symm; subst hn_; subst hf_
    by_cases hc : hcB L k = true
    · have e : tlN L (k + 1) = tlN L k + 1 := by
        show tlN L k + _ = _
        rw [if_pos hc]
      rw [if_pos hc] at ihk
      refine mz_go [25] 20 ?_
      simp only [mz_r0, mk_lit, mk_fin, mk_cat, mk_fit, mk_nar, mk_cls, mk_ty, mk_isr, List.mem_cons, List.not_mem_nil, or_false, or_true, false_or, true_or, Nat.reduceEqDiff, Nat.reduceAdd, Nat.reduceSub, Nat.reduceLT, Nat.reduceLeDiff, ↓reduceIte, if_true, if_false, List.getElem?_cons_zero, List.getElem?_cons_succ, List.set_cons_zero, List.set_cons_succ, List.length_cons, List.length_nil, mz_s1, mz_s2, mz_cl, true_and, and_true, false_and, and_false, List.append_nil, mk_b0, mk_b1, mk_b2, mk_bn, Value.int.injEq, Option.toList_some, Option.toList_none, List.cons_append, List.nil_append, Classical.not_not, Option.some.injEq, reduceCtorEq, ne_eq, not_true_eq_false, not_false_eq_true, false_implies, true_implies, ev_37, ev_56, ev_41, ev_49, ev_79, ft_10_0, fn_10_0, ft_10_2, fn_10_2, ev_48, ev_61, ev_67, mz_rl d_Tabulator_doTotals_2, mz_rl d_Tabulator_doTotals_3, mz_rl d_Tabulator_doTotals_4, mz_rl d_Tabulator_doTotals_7, mz_rl d_Tabulator_doTotals_8, mz_rl d_Tabulator_doTotals_9, mz_rl d_Tabulator_doTotals_12, mz_rl d_Tabulator_doTotals_15, mz_rl d_Tabulator_doTotals_16, mz_rl d_Tabulator_doTotals_17, mz_rl d_Tabulator_doTotals_20, mz_rl d_Tabulator_doTotals_21, mz_rl d_Tabulator_doTotals_22, mz_rl d_Tabulator_doTotals_45, mz_rl d_Tabulator_doTotals_48, mz_rl d_Tabulator_doTotals_51, j_Tabulator_doTotals_4, j_Tabulator_doTotals_12, j_Tabulator_doTotals_48, nF_10, hc, h16]
      refine mz_callV (by simp only [d_Tabulator_doTotals_25, Nat.reduceAdd]) g_10_116 rfl (fun _ _ h => h) (c_Board_bringFromCounters G n H (lv := k) hEH hBH hok k7 k1 k2 (by decide) (by decide) (by decide) (by omega) (by omega) (by decide) (show k < 2 ^ 31 by omega)) hBH.1 rfl rfl (by decide) (Nat.le_of_ble_eq_true rfl) rfl ?_; intro v_ n_ f_ h_; obtain ⟨rfl, hn_, hf_⟩ := h_; replace hn_ := hn_.symm; replace hf_ := hf_.symm; subst hn_; subst hf_
      obtain ⟨R, hR⟩ : ∃ R, R = brX F T L (fun j => nI (v.1 j)) k 32 24 w (cpy (fun _ => -1) g 24, nI 0) := ⟨_, rfl⟩
      have h24 := (brX_24 (g := g) (lv := k) (T := T) hok hvb).2 hcx
      rw [← hR] at h24 ⊢
      have hT2 := Tb_120 hT R.1 R.2
      have hF2 : FrT f _ := FrT_jH (j := 120) (ja := 121) (q := 32) (N := 24) (g := R.1) (cl := R.2) hF (by decide) (by decide)
      have hn2 : ∀ z, 121 < z → jH H 120 121 32 24 R.1 R.2 z = f z := fun z hz => by unfold jH; rw [mz_u_n (by omega), mz_u_n (by omega)]; exact hn z hz
      have hX2 : TT (jH H 120 121 32 24 R.1 R.2) v := TT_eq hX (fun q hq => by unfold jH; rw [mz_u_n (by omega), mz_u_n (by omega)])
      have k22 : jH H 120 121 32 24 R.1 R.2 121 = aI 24 R.1 := by unfold jH; rw [mz_u_n (by decide)]; exact mz_u_s _ _ _
      generalize jH H 120 121 32 24 R.1 R.2 = H2 at hT2 hF2 hn2 hX2 k22 ⊢
      obtain ⟨cl2, k12⟩ := hT2.2.2.2.2.1
      have h162 := hT2.1
      refine mz_go [36] 20 ?_
      simp only [mz_r0, mk_lit, mk_fin, mk_cat, mk_fit, mk_nar, mk_cls, mk_ty, mk_isr, List.mem_cons, List.not_mem_nil, or_false, or_true, false_or, true_or, Nat.reduceEqDiff, Nat.reduceAdd, Nat.reduceSub, Nat.reduceLT, Nat.reduceLeDiff, ↓reduceIte, if_true, if_false, List.getElem?_cons_zero, List.getElem?_cons_succ, List.set_cons_zero, List.set_cons_succ, List.length_cons, List.length_nil, mz_s1, mz_s2, mz_cl, true_and, and_true, false_and, and_false, List.append_nil, mk_b0, mk_b1, mk_b2, mk_bn, Value.int.injEq, Option.toList_some, Option.toList_none, List.cons_append, List.nil_append, Classical.not_not, Option.some.injEq, reduceCtorEq, ne_eq, not_true_eq_false, not_false_eq_true, false_implies, true_implies, ev_41, ev_79, ft_10_1, fn_10_1, ft_10_2, fn_10_2, mz_rl d_Tabulator_doTotals_28, mz_rl d_Tabulator_doTotals_29, mz_rl d_Tabulator_doTotals_32, mz_rl d_Tabulator_doTotals_33, nF_10, h162]
      refine mz_callV (by simp only [d_Tabulator_doTotals_36, Nat.reduceAdd]) g_10_143 rfl (fun _ _ h => h) (c_Paper_print G mk_P n H2 hT2.2.2.1 (show v.2.1 < 100 by omega) k12 k22 (by decide) (by decide)) hT2.2.2.1.1 rfl rfl (by decide) (Nat.le_of_ble_eq_true rfl) rfl ?_; rintro v_ n_ f_ ⟨rfl, rfl, hFp, hPa, gr, hgr, hgv⟩
      have hT3 := Tb_pr hT2 (show v.2.1 < 100 by omega) hFp hPa
      have hF3 := FrT_tr hF2 (FrT_pr (show v.2.1 < 100 by omega) hFp)
      have hn3 : ∀ z, 121 < z → f_ z = f z := fun z hz => (hFp z (by omega) (by omega)).trans (hn2 z hz)
      have hX3 := TT_pr (r := fun p => prN (arX F T L v.1 k (32 + p) w)) hX2 (by omega) hFp hPa.1 hgr (fun p hp => by
        rw [hgv p hp, h24 p hp]
        exact prN_c (arX_v w) (clX_not hcx hp))
      have hB3 := Bd_T hF3 hB hb
      refine mz_go [42] 20 ?_
      simp only [mz_r0, mk_lit, mk_fin, mk_cat, mk_fit, mk_nar, mk_cls, mk_ty, mk_isr, List.mem_cons, List.not_mem_nil, or_false, or_true, false_or, true_or, Nat.reduceEqDiff, Nat.reduceAdd, Nat.reduceSub, Nat.reduceLT, Nat.reduceLeDiff, ↓reduceIte, if_true, if_false, List.getElem?_cons_zero, List.getElem?_cons_succ, List.set_cons_zero, List.set_cons_succ, List.length_cons, List.length_nil, mz_s1, mz_s2, mz_cl, true_and, and_true, false_and, and_false, List.append_nil, mk_b0, mk_b1, mk_b2, mk_bn, Value.int.injEq, Option.toList_some, Option.toList_none, List.cons_append, List.nil_append, Classical.not_not, Option.some.injEq, reduceCtorEq, ne_eq, not_true_eq_false, not_false_eq_true, false_implies, true_implies, ev_41, ev_37, mz_rl d_Tabulator_doTotals_39, mz_rl d_Tabulator_doTotals_40, mz_rl d_Tabulator_doTotals_41, nF_10]
      refine mz_callV (by simp only [d_Tabulator_doTotals_42, Nat.reduceAdd]) g_10_147 rfl (fun _ _ h => h) (c_Tabulator_clearCounters G mk_P n_ f_ hT3 hX3.1 hB3 hok hb (show k < 2 ^ 31 by omega)) hT3.1 rfl rfl (by decide) (Nat.le_of_ble_eq_true rfl) rfl ?_; intro v_ n_ f_ h_; obtain ⟨rfl, hn_, hf_⟩ := h_; replace hn_ := hn_.symm; replace hf_ := hf_.symm; subst hn_; subst hf_
      refine mz_go [2] 20 ?_
      simp only [mz_r0, mk_lit, mk_fin, mk_cat, mk_fit, mk_nar, mk_cls, mk_ty, mk_isr, List.mem_cons, List.not_mem_nil, or_false, or_true, false_or, true_or, Nat.reduceEqDiff, Nat.reduceAdd, Nat.reduceSub, Nat.reduceLT, Nat.reduceLeDiff, ↓reduceIte, if_true, if_false, List.getElem?_cons_zero, List.getElem?_cons_succ, List.set_cons_zero, List.set_cons_succ, List.length_cons, List.length_nil, mz_s1, mz_s2, mz_cl, true_and, and_true, false_and, and_false, List.append_nil, mk_b0, mk_b1, mk_b2, mk_bn, Value.int.injEq, Option.toList_some, Option.toList_none, List.cons_append, List.nil_append, Classical.not_not, Option.some.injEq, reduceCtorEq, ne_eq, not_true_eq_false, not_false_eq_true, false_implies, true_implies, ev_48, ev_61, mz_rl d_Tabulator_doTotals_45, mz_rl d_Tabulator_doTotals_48, j_Tabulator_doTotals_48, nF_10, nI_add]
      refine ihk _ (by omega) (Tb_17 hT3 _) (TT_17 hX3 (fun c hc4 => ?_)) (FrT_u hF3 (by decide) _) (fun z hz => (mz_u_n (by omega)).trans (hn3 z hz))
      show (if c < 4 ∧ L c = k then 0 else v.1 c) < 1000000
      have := hvb c hc4
      split <;> omega
    · rw [if_neg hc] at ihk
      refine mz_go [2] 20 ?_
      simp only [mz_r0, mk_lit, mk_fin, mk_cat, mk_fit, mk_nar, mk_cls, mk_ty, mk_isr, List.mem_cons, List.not_mem_nil, or_false, or_true, false_or, true_or, Nat.reduceEqDiff, Nat.reduceAdd, Nat.reduceSub, Nat.reduceLT, Nat.reduceLeDiff, ↓reduceIte, if_true, if_false, List.getElem?_cons_zero, List.getElem?_cons_succ, List.set_cons_zero, List.set_cons_succ, List.length_cons, List.length_nil, mz_s1, mz_s2, mz_cl, true_and, and_true, false_and, and_false, List.append_nil, mk_b0, mk_b1, mk_b2, mk_bn, Value.int.injEq, Option.toList_some, Option.toList_none, List.cons_append, List.nil_append, Classical.not_not, Option.some.injEq, reduceCtorEq, ne_eq, not_true_eq_false, not_false_eq_true, false_implies, true_implies, ev_49, ev_41, ev_79, ft_10_0, fn_10_0, ev_37, ft_10_2, fn_10_2, ev_48, ev_61, mz_rl d_Tabulator_doTotals_12, mz_rl d_Tabulator_doTotals_15, mz_rl d_Tabulator_doTotals_16, mz_rl d_Tabulator_doTotals_17, mz_rl d_Tabulator_doTotals_20, mz_rl d_Tabulator_doTotals_21, mz_rl d_Tabulator_doTotals_22, mz_rl d_Tabulator_doTotals_25, mz_rl d_Tabulator_doTotals_45, mz_rl d_Tabulator_doTotals_48, j_Tabulator_doTotals_12, j_Tabulator_doTotals_48, nF_10, hc, nI_add]
      exact ihk _ (by omega) hT hX hF hn
theorem c_Tabulator_doTotals (G : mz_G) (n : Nat) (f : mz_H) {b w lv : Nat} {F T L : Nat → Nat} {u : tT} (hE : f 1000000000001 = mz_d) (hT : Tb f u.2.1) (hX : TT f u) (hB : Bd f b w F T L) (hok : BdOk w F T L) (hb : 126 < b) (hlv : lv ≤ 4) (hcl : tcB F T L u.1 w lv = false) (hx : u.2.1 + tlN L lv ≤ 100) :
    mz_Ct G mk_P y_Tabulator_doTotals b_Tabulator_doTotals 4 none (r_Tabulator_doTotals 0 0) [.ref 16, .ref b, .int (nI lv)] n f (fun v n' f' => v = none ∧ n' = n ∧ Tb f' (toF F T L w lv u).2.1 ∧ TT f' (toF F T L w lv u) ∧ FrT f f' ∧ (∀ z, 121 < z → f' z = f z)) := by
  refine mk_Ct 10 false [some (.ref 16), some (.ref b), some (.int (nI lv)), none] (by decide) rfl (by decide) (Nat.le_of_ble_eq_true rfl) rfl ?_
  refine mz_go [2] 20 ?_
  simp only [mz_r0, mk_lit, mk_fin, mk_cat, mk_fit, mk_nar, mk_cls, mk_ty, mk_isr, List.mem_cons, List.not_mem_nil, or_false, or_true, false_or, true_or, Nat.reduceEqDiff, Nat.reduceAdd, Nat.reduceSub, Nat.reduceLT, Nat.reduceLeDiff, ↓reduceIte, if_true, if_false, List.getElem?_cons_zero, List.getElem?_cons_succ, List.set_cons_zero, List.set_cons_succ, List.length_cons, List.length_nil, mz_s1, mz_s2, mz_cl, true_and, and_true, false_and, and_false, List.append_nil, mk_b0, mk_b1, mk_b2, mk_bn, Value.int.injEq, Option.toList_some, Option.toList_none, List.cons_append, List.nil_append, Classical.not_not, Option.some.injEq, reduceCtorEq, ne_eq, not_true_eq_false, not_false_eq_true, false_implies, true_implies, ev_0, ev_43, mz_rl d_Tabulator_doTotals_0, mz_rl d_Tabulator_doTotals_1, nF_10]
  exact l_Tabulator_doTotals G n f hE hB hok hb hlv hX.2.2.2.2 hcl hx lv 0 f (by omega) hT hX FrT_rf (fun _ _ => rfl)
theorem l_Tabulator_totalsClash (G : mz_G) (n : Nat) (f : mz_H) {b w lv : Nat} {F T L : Nat → Nat} {u : tT} (hE : f 1000000000001 = mz_d) (hB : Bd f b w F T L) (hok : BdOk w F T L) (hb : 126 < b) (hlv : lv ≤ 4) (R : Bool) (hR : R = tcB F T L u.1 w lv) :
    ∀ m k H, k + m = lv → tcB F T L u.1 w k = false → Tb H u.2.1 → TT H u → FrT f H → (∀ z, 121 < z → H z = f z) → mz_X G mk_P 10 false b_Tabulator_totalsClash 4 (some .boolean) (r_Tabulator_totalsClash 0 0) (fun v n' f' => v = some (.int (mk_b (R = true))) ∧ n' = n ∧ Tb f' u.2.1 ∧ TT f' u ∧ FrT f f' ∧ (∀ z, 121 < z → f' z = f z)) (fun _ _ _ => False) 2 [some (.ref 16), some (.ref b), some (.int (nI lv)), some (.int (nI k))] [] 0 0 n H := by
  intro m
  induction m with
  | zero =>
    intro k H hk hc hT hX hF hn
    have : k = lv := by omega
    subst this
    rw [hc] at hR
    subst hR
    refine mz_go [2] 20 ?_
    simp only [mz_r0, mk_lit, mk_fin, mk_cat, mk_fit, mk_nar, mk_cls, mk_ty, mk_isr, List.mem_cons, List.not_mem_nil, or_false, or_true, false_or, true_or, Nat.reduceEqDiff, Nat.reduceAdd, Nat.reduceSub, Nat.reduceLT, Nat.reduceLeDiff, ↓reduceIte, if_true, if_false, List.getElem?_cons_zero, List.getElem?_cons_succ, List.set_cons_zero, List.set_cons_succ, List.length_cons, List.length_nil, mz_s1, mz_s2, mz_cl, true_and, and_true, false_and, and_false, List.append_nil, mk_b0, mk_b1, mk_b2, mk_bn, Value.int.injEq, Option.toList_some, Option.toList_none, List.cons_append, List.nil_append, Classical.not_not, Option.some.injEq, reduceCtorEq, ne_eq, not_true_eq_false, not_false_eq_true, false_implies, true_implies, ev_37, ev_56, ev_41, ev_79, ft_10_0, fn_10_0, ft_10_2, fn_10_2, ev_0, ev_64, mz_rl d_Tabulator_totalsClash_2, mz_rl d_Tabulator_totalsClash_3, mz_rl d_Tabulator_totalsClash_4, mz_rl d_Tabulator_totalsClash_7, mz_rl d_Tabulator_totalsClash_8, mz_rl d_Tabulator_totalsClash_9, mz_rl d_Tabulator_totalsClash_12, mz_rl d_Tabulator_totalsClash_13, mz_rl d_Tabulator_totalsClash_14, mz_rl d_Tabulator_totalsClash_17, mz_rl d_Tabulator_totalsClash_38, mz_rl d_Tabulator_totalsClash_39, j_Tabulator_totalsClash_4, nF_10, nI_leI (show k < 2 ^ 31 by omega) (show k < 2 ^ 31 by omega), Nat.le_refl, show (false = true) = False from by simp]
    exact ⟨hT, hX, hF, hn⟩
  | succ m ih =>
    intro k H hk hc hT hX hF hn
    have hBH := Bd_T hF hB hb
    have hEH := E_T hF hE
    have h16 := hT.1
    have k7 := hX.1
    obtain ⟨cl, k1⟩ := hT.2.2.2.2.1
    obtain ⟨g, k2⟩ := hT.2.2.2.2.2.1
    refine mz_go [17] 20 ?_
    simp only [mz_r0, mk_lit, mk_fin, mk_cat, mk_fit, mk_nar, mk_cls, mk_ty, mk_isr, List.mem_cons, List.not_mem_nil, or_false, or_true, false_or, true_or, Nat.reduceEqDiff, Nat.reduceAdd, Nat.reduceSub, Nat.reduceLT, Nat.reduceLeDiff, ↓reduceIte, if_true, if_false, List.getElem?_cons_zero, List.getElem?_cons_succ, List.set_cons_zero, List.set_cons_succ, List.length_cons, List.length_nil, mz_s1, mz_s2, mz_cl, true_and, and_true, false_and, and_false, List.append_nil, mk_b0, mk_b1, mk_b2, mk_bn, Value.int.injEq, Option.toList_some, Option.toList_none, List.cons_append, List.nil_append, Classical.not_not, Option.some.injEq, reduceCtorEq, ne_eq, not_true_eq_false, not_false_eq_true, false_implies, true_implies, ev_37, ev_56, ev_41, ev_79, ft_10_0, fn_10_0, ft_10_2, fn_10_2, ev_0, ev_64, mz_rl d_Tabulator_totalsClash_2, mz_rl d_Tabulator_totalsClash_3, mz_rl d_Tabulator_totalsClash_4, mz_rl d_Tabulator_totalsClash_7, mz_rl d_Tabulator_totalsClash_8, mz_rl d_Tabulator_totalsClash_9, mz_rl d_Tabulator_totalsClash_12, mz_rl d_Tabulator_totalsClash_13, mz_rl d_Tabulator_totalsClash_14, mz_rl d_Tabulator_totalsClash_38, mz_rl d_Tabulator_totalsClash_39, j_Tabulator_totalsClash_4, nF_10, nI_leI (show lv < 2 ^ 31 by omega) (show k < 2 ^ 31 by omega), show ¬ lv ≤ k by omega, h16]
    refine mz_callV (by simp only [d_Tabulator_totalsClash_17, Nat.reduceAdd]) g_10_116 rfl (fun _ _ h => h) (c_Board_bringFromCounters G n H (lv := k) hEH hBH hok k7 k1 k2 (by decide) (by decide) (by decide) (by omega) (by omega) (by decide) (show k < 2 ^ 31 by omega)) hBH.1 rfl rfl (by decide) (Nat.le_of_ble_eq_true rfl) rfl ?_; intro v_ n_ f_ h_; obtain ⟨rfl, hn_, hf_⟩ := h_; replace hn_ := hn_.symm; replace hf_ := hf_.symm; subst hn_; subst hf_
    obtain ⟨Q, hQ⟩ : ∃ Q, Q = brX F T L (fun j => nI (u.1 j)) k 32 24 w (cpy (fun _ => -1) g 24, nI 0) := ⟨_, rfl⟩
    have h24 := (brX_24 (g := g) (lv := k) (T := T) hok hX.2.2.2.2).1
    rw [← hQ] at h24 ⊢
    have hT2 := Tb_120 hT Q.1 Q.2
    have hF2 : FrT f _ := FrT_jH (j := 120) (ja := 121) (q := 32) (N := 24) (g := Q.1) (cl := Q.2) hF (by decide) (by decide)
    have hn2 : ∀ z, 121 < z → jH H 120 121 32 24 Q.1 Q.2 z = f z := fun z hz => by unfold jH; rw [mz_u_n (by omega), mz_u_n (by omega)]; exact hn z hz
    have hX2 : TT (jH H 120 121 32 24 Q.1 Q.2) u := TT_eq hX (fun q hq => by unfold jH; rw [mz_u_n (by omega), mz_u_n (by omega)])
    have k12 : jH H 120 121 32 24 Q.1 Q.2 120 = .inr (6, [.int (nI 32), .ref 121, .int Q.2]) := mz_u_s _ _ _
    generalize jH H 120 121 32 24 Q.1 Q.2 = H2 at hT2 hF2 hn2 hX2 k12 ⊢
    rw [h24] at k12
    have h162 := hT2.1
    cases hcx : clX F T L u.1 k w 24 with
    | false =>
      rw [hcx] at k12
      refine mz_go [2] 20 ?_
      simp only [mz_r0, mk_lit, mk_fin, mk_cat, mk_fit, mk_nar, mk_cls, mk_ty, mk_isr, List.mem_cons, List.not_mem_nil, or_false, or_true, false_or, true_or, Nat.reduceEqDiff, Nat.reduceAdd, Nat.reduceSub, Nat.reduceLT, Nat.reduceLeDiff, ↓reduceIte, if_true, if_false, List.getElem?_cons_zero, List.getElem?_cons_succ, List.set_cons_zero, List.set_cons_succ, List.length_cons, List.length_nil, mz_s1, mz_s2, mz_cl, true_and, and_true, false_and, and_false, List.append_nil, mk_b0, mk_b1, mk_b2, mk_bn, Value.int.injEq, Option.toList_some, Option.toList_none, List.cons_append, List.nil_append, Classical.not_not, Option.some.injEq, reduceCtorEq, ne_eq, not_true_eq_false, not_false_eq_true, false_implies, true_implies, ev_41, ev_79, ft_10_2, fn_10_2, ft_6_2, fn_6_2, ev_49, ev_0, ev_64, ev_48, ev_61, mz_rl d_Tabulator_totalsClash_20, mz_rl d_Tabulator_totalsClash_21, mz_rl d_Tabulator_totalsClash_24, mz_rl d_Tabulator_totalsClash_27, mz_rl d_Tabulator_totalsClash_30, mz_rl d_Tabulator_totalsClash_31, mz_rl d_Tabulator_totalsClash_32, mz_rl d_Tabulator_totalsClash_35, j_Tabulator_totalsClash_27, j_Tabulator_totalsClash_35, nF_10, h162, k12, nI_add, show (false = true) = False from by simp]
      exact ih (k + 1) _ (by omega) (by unfold tcB; rw [hc, hcx]; rfl) hT2 hX2 hF2 hn2
    | true =>
      rw [hcx] at k12
      rw [(tcB_iff lv).mpr ⟨k, by omega, hcx⟩] at hR
      subst hR
      refine mz_go [2] 20 ?_
      simp only [mz_r0, mk_lit, mk_fin, mk_cat, mk_fit, mk_nar, mk_cls, mk_ty, mk_isr, List.mem_cons, List.not_mem_nil, or_false, or_true, false_or, true_or, Nat.reduceEqDiff, Nat.reduceAdd, Nat.reduceSub, Nat.reduceLT, Nat.reduceLeDiff, ↓reduceIte, if_true, if_false, List.getElem?_cons_zero, List.getElem?_cons_succ, List.set_cons_zero, List.set_cons_succ, List.length_cons, List.length_nil, mz_s1, mz_s2, mz_cl, true_and, and_true, false_and, and_false, List.append_nil, mk_b0, mk_b1, mk_b2, mk_bn, Value.int.injEq, Option.toList_some, Option.toList_none, List.cons_append, List.nil_append, Classical.not_not, Option.some.injEq, reduceCtorEq, ne_eq, not_true_eq_false, not_false_eq_true, false_implies, true_implies, ev_41, ev_79, ft_10_2, fn_10_2, ft_6_2, fn_6_2, ev_49, ev_0, ev_64, ev_48, ev_61, mz_rl d_Tabulator_totalsClash_20, mz_rl d_Tabulator_totalsClash_21, mz_rl d_Tabulator_totalsClash_24, mz_rl d_Tabulator_totalsClash_27, mz_rl d_Tabulator_totalsClash_30, mz_rl d_Tabulator_totalsClash_31, mz_rl d_Tabulator_totalsClash_32, mz_rl d_Tabulator_totalsClash_35, j_Tabulator_totalsClash_27, j_Tabulator_totalsClash_35, nF_10, h162, k12, nI_add, show (true = true) = True from by simp]
      exact ⟨hT2, hX2, hF2, hn2⟩
theorem c_Tabulator_totalsClash (G : mz_G) (n : Nat) (f : mz_H) {b w lv : Nat} {F T L : Nat → Nat} {u : tT} (hE : f 1000000000001 = mz_d) (hT : Tb f u.2.1) (hX : TT f u) (hB : Bd f b w F T L) (hok : BdOk w F T L) (hb : 126 < b) (hlv : lv ≤ 4) :
    mz_Ct G mk_P y_Tabulator_totalsClash b_Tabulator_totalsClash 4 (some .boolean) (r_Tabulator_totalsClash 0 0) [.ref 16, .ref b, .int (nI lv)] n f (fun v n' f' => v = some (.int (mk_b (tcB F T L u.1 w lv = true))) ∧ n' = n ∧ Tb f' u.2.1 ∧ TT f' u ∧ FrT f f' ∧ (∀ z, 121 < z → f' z = f z)) := by
  refine mk_Ct 10 false [some (.ref 16), some (.ref b), some (.int (nI lv)), none] (by decide) rfl (by decide) (Nat.le_of_ble_eq_true rfl) rfl ?_
  refine mz_go [2] 20 ?_
  simp only [mz_r0, mk_lit, mk_fin, mk_cat, mk_fit, mk_nar, mk_cls, mk_ty, mk_isr, List.mem_cons, List.not_mem_nil, or_false, or_true, false_or, true_or, Nat.reduceEqDiff, Nat.reduceAdd, Nat.reduceSub, Nat.reduceLT, Nat.reduceLeDiff, ↓reduceIte, if_true, if_false, List.getElem?_cons_zero, List.getElem?_cons_succ, List.set_cons_zero, List.set_cons_succ, List.length_cons, List.length_nil, mz_s1, mz_s2, mz_cl, true_and, and_true, false_and, and_false, List.append_nil, mk_b0, mk_b1, mk_b2, mk_bn, Value.int.injEq, Option.toList_some, Option.toList_none, List.cons_append, List.nil_append, Classical.not_not, Option.some.injEq, reduceCtorEq, ne_eq, not_true_eq_false, not_false_eq_true, false_implies, true_implies, ev_0, ev_43, mz_rl d_Tabulator_totalsClash_0, mz_rl d_Tabulator_totalsClash_1, nF_10]
  exact l_Tabulator_totalsClash G n f hE hB hok hb hlv _ rfl lv 0 f (by omega) rfl hT hX FrT_rf (fun _ _ => rfl)
theorem pw6 : mk_pw 6 = nI 1000000 := by decide +kernel
theorem l_Tabulator_isAnyOverrun (G : mz_G) (n : Nat) (f : mz_H) {b w lv : Nat} {F T L t : Nat → Nat} {u : tT} (hE : f 1000000000001 = mz_d) (hT : Tb f u.2.1) (hX : TT f u) (hen : En f F T t w) (ht : ∀ j, j < 16 → sg (t j)) (hB : Bd f b w F T L) (hok : BdOk w F T L) (hlv : lv ≤ 4) (R : Bool) (hR : R = ovB F T L u.1 t w lv 4) :
    ∀ m k w4, k + m = 4 → ovB F T L u.1 t w lv k = false → (∀ v, w4 = some v → v.category = 1) → mz_X G mk_P 10 false b_Tabulator_isAnyOverrun 5 (some .boolean) (r_Tabulator_isAnyOverrun 0 0) (fun v n' f' => v = some (.int (mk_b (R = true))) ∧ n' = n ∧ f' = f) (fun _ _ _ => False) 2 [some (.ref 16), some (.ref b), some (.int (nI lv)), some (.int (nI k)), w4] [] 0 0 n f := by
  obtain ⟨g5, k5, hg5⟩ := hen
  obtain ⟨cl, k4⟩ := hT.2.2.2.2.2.2.2.2.1
  have h16 := hT.1
  have k7 := hX.1
  intro m
  induction m with
  | zero =>
    intro k w4 hk ho h4
    have : k = 4 := by omega
    subst this
    rw [ho] at hR
    subst hR
    refine mz_go [2] 20 ?_
    simp only [mz_r0, mk_lit, mk_fin, mk_cat, mk_fit, mk_nar, mk_cls, mk_ty, mk_isr, List.mem_cons, List.not_mem_nil, or_false, or_true, false_or, true_or, Nat.reduceEqDiff, Nat.reduceAdd, Nat.reduceSub, Nat.reduceLT, Nat.reduceLeDiff, ↓reduceIte, if_true, if_false, List.getElem?_cons_zero, List.getElem?_cons_succ, List.set_cons_zero, List.set_cons_succ, List.length_cons, List.length_nil, mz_s1, mz_s2, mz_cl, true_and, and_true, false_and, and_false, List.append_nil, mk_b0, mk_b1, mk_b2, mk_bn, Value.int.injEq, Option.toList_some, Option.toList_none, List.cons_append, List.nil_append, Classical.not_not, Option.some.injEq, reduceCtorEq, ne_eq, not_true_eq_false, not_false_eq_true, false_implies, true_implies, ev_37, ev_0, ev_56, ev_41, ev_79, ft_1_2, fn_1_2, ev_68, ev_61, ft_10_0, fn_10_0, ev_42, ev_36, ev_64, mz_rl d_Tabulator_isAnyOverrun_2, mz_rl d_Tabulator_isAnyOverrun_3, mz_rl d_Tabulator_isAnyOverrun_4, mz_rl d_Tabulator_isAnyOverrun_7, mz_rl d_Tabulator_isAnyOverrun_8, mz_rl d_Tabulator_isAnyOverrun_11, mz_rl d_Tabulator_isAnyOverrun_12, mz_rl d_Tabulator_isAnyOverrun_13, mz_rl d_Tabulator_isAnyOverrun_14, mz_rl d_Tabulator_isAnyOverrun_17, mz_rl d_Tabulator_isAnyOverrun_18, mz_rl d_Tabulator_isAnyOverrun_21, mz_rl d_Tabulator_isAnyOverrun_22, mz_rl d_Tabulator_isAnyOverrun_25, mz_rl d_Tabulator_isAnyOverrun_26, mz_rl d_Tabulator_isAnyOverrun_27, mz_rl d_Tabulator_isAnyOverrun_29, mz_rl d_Tabulator_isAnyOverrun_31, mz_rl d_Tabulator_isAnyOverrun_32, mz_rl d_Tabulator_isAnyOverrun_33, mz_rl d_Tabulator_isAnyOverrun_54, mz_rl d_Tabulator_isAnyOverrun_55, j_Tabulator_isAnyOverrun_4, j_Tabulator_isAnyOverrun_14, j_Tabulator_isAnyOverrun_18, nF_10, mk_le, mk_ti, Int.le_refl, show (false = true) = False from by simp]
  | succ m ih =>
    intro k w4 hk ho h4
    have e := hok.2.2 k (by omega)
    have hcb := hX.2.2.2.2 k (by omega)
    have heb := enN_lt (T := T) (c := k) hok ht 6
    have hst : stN L u.1 lv k < 1000000 := by unfold stN; split <;> omega
    have st : mz_X G mk_P 10 false b_Tabulator_isAnyOverrun 5 (some .boolean) (r_Tabulator_isAnyOverrun 0 0) (fun v n' f' => v = some (.int (mk_b (R = true))) ∧ n' = n ∧ f' = f) (fun _ _ _ => False) 29 [some (.ref 16), some (.ref b), some (.int (nI lv)), some (.int (nI k)), some (.int (nI (stN L u.1 lv k)))] [] 0 0 n f := by
      refine mz_go [33] 20 ?_
      simp only [mz_r0, mk_lit, mk_fin, mk_cat, mk_fit, mk_nar, mk_cls, mk_ty, mk_isr, List.mem_cons, List.not_mem_nil, or_false, or_true, false_or, true_or, Nat.reduceEqDiff, Nat.reduceAdd, Nat.reduceSub, Nat.reduceLT, Nat.reduceLeDiff, ↓reduceIte, if_true, if_false, List.getElem?_cons_zero, List.getElem?_cons_succ, List.set_cons_zero, List.set_cons_succ, List.length_cons, List.length_nil, mz_s1, mz_s2, mz_cl, true_and, and_true, false_and, and_false, List.append_nil, mk_b0, mk_b1, mk_b2, mk_bn, Value.int.injEq, Option.toList_some, Option.toList_none, List.cons_append, List.nil_append, Classical.not_not, Option.some.injEq, reduceCtorEq, ne_eq, not_true_eq_false, not_false_eq_true, false_implies, true_implies, ev_36, ev_41, ev_37, mz_rl d_Tabulator_isAnyOverrun_29, mz_rl d_Tabulator_isAnyOverrun_31, mz_rl d_Tabulator_isAnyOverrun_32, nF_10]
      refine mz_callV (by simp only [d_Tabulator_isAnyOverrun_33, Nat.reduceAdd]) g_10_123 rfl (fun _ _ h => h) (c_Tabulator_entered G n f (k := k) hE h16 k4 k5 (show k < 4 by omega) hg5) h16 rfl rfl (by decide) (Nat.le_of_ble_eq_true rfl) rfl ?_; intro v_ n_ f_ h_; obtain ⟨rfl, hn_, hf_⟩ := h_; replace hn_ := hn_.symm; replace hf_ := hf_.symm; subst hn_; subst hf_
      have hlt : (nI (stN L u.1 lv k + enN F T t w k 6) < nI 1000000) = (stN L u.1 lv k + enN F T t w k 6 < 1000000) := propext (nI_ltI (by omega) (by decide))
      by_cases hv : stN L u.1 lv k + enN F T t w k 6 < 1000000
      · refine mz_go [2] 40 ?_
        simp only [mz_r0, mk_lit, mk_fin, mk_cat, mk_fit, mk_nar, mk_cls, mk_ty, mk_isr, List.mem_cons, List.not_mem_nil, or_false, or_true, false_or, true_or, Nat.reduceEqDiff, Nat.reduceAdd, Nat.reduceSub, Nat.reduceLT, Nat.reduceLeDiff, ↓reduceIte, if_true, if_false, List.getElem?_cons_zero, List.getElem?_cons_succ, List.set_cons_zero, List.set_cons_succ, List.length_cons, List.length_nil, mz_s1, mz_s2, mz_cl, true_and, and_true, false_and, and_false, List.append_nil, mk_b0, mk_b1, mk_b2, mk_bn, Value.int.injEq, Option.toList_some, Option.toList_none, List.cons_append, List.nil_append, Classical.not_not, Option.some.injEq, reduceCtorEq, ne_eq, not_true_eq_false, not_false_eq_true, false_implies, true_implies, ev_5, ev_81, ev_1, ev_68, ev_54, ev_0, ev_64, ev_48, ev_61, mz_rl d_Tabulator_isAnyOverrun_36, mz_rl d_Tabulator_isAnyOverrun_37, mz_rl d_Tabulator_isAnyOverrun_40, mz_rl d_Tabulator_isAnyOverrun_42, mz_rl d_Tabulator_isAnyOverrun_43, mz_rl d_Tabulator_isAnyOverrun_46, mz_rl d_Tabulator_isAnyOverrun_47, mz_rl d_Tabulator_isAnyOverrun_48, mz_rl d_Tabulator_isAnyOverrun_51, j_Tabulator_isAnyOverrun_43, j_Tabulator_isAnyOverrun_51, nF_10, mk_sta, mk_P1, hE, mz_d, vp_in_nI (show 6 < 7 by decide) (show 7 < 2 ^ 31 by decide), nI_clamp (show 6 < 2 ^ 31 by decide), nI_add, pw6, hlt, eq_true hv]
        exact ih (k + 1) _ (by omega) (by unfold ovB; rw [ho, decide_eq_false (by omega)]; rfl) (fun v hv => by cases hv; rfl)
      · rw [(ovB_iff 4).mpr ⟨k, by omega, by omega⟩] at hR
        subst hR
        refine mz_go [2] 40 ?_
        simp only [mz_r0, mk_lit, mk_fin, mk_cat, mk_fit, mk_nar, mk_cls, mk_ty, mk_isr, List.mem_cons, List.not_mem_nil, or_false, or_true, false_or, true_or, Nat.reduceEqDiff, Nat.reduceAdd, Nat.reduceSub, Nat.reduceLT, Nat.reduceLeDiff, ↓reduceIte, if_true, if_false, List.getElem?_cons_zero, List.getElem?_cons_succ, List.set_cons_zero, List.set_cons_succ, List.length_cons, List.length_nil, mz_s1, mz_s2, mz_cl, true_and, and_true, false_and, and_false, List.append_nil, mk_b0, mk_b1, mk_b2, mk_bn, Value.int.injEq, Option.toList_some, Option.toList_none, List.cons_append, List.nil_append, Classical.not_not, Option.some.injEq, reduceCtorEq, ne_eq, not_true_eq_false, not_false_eq_true, false_implies, true_implies, ev_5, ev_81, ev_1, ev_68, ev_54, ev_0, ev_64, ev_48, ev_61, mz_rl d_Tabulator_isAnyOverrun_36, mz_rl d_Tabulator_isAnyOverrun_37, mz_rl d_Tabulator_isAnyOverrun_40, mz_rl d_Tabulator_isAnyOverrun_42, mz_rl d_Tabulator_isAnyOverrun_43, mz_rl d_Tabulator_isAnyOverrun_46, mz_rl d_Tabulator_isAnyOverrun_47, mz_rl d_Tabulator_isAnyOverrun_48, mz_rl d_Tabulator_isAnyOverrun_51, j_Tabulator_isAnyOverrun_43, j_Tabulator_isAnyOverrun_51, nF_10, mk_sta, mk_P1, hE, mz_d, vp_in_nI (show 6 < 7 by decide) (show 7 < 2 ^ 31 by decide), nI_clamp (show 6 < 2 ^ 31 by decide), nI_add, pw6, hlt, eq_false hv, show (true = true) = True from by simp]
    have stN_0 : L k < lv → stN L u.1 lv k = 0 := fun h => if_pos h
    have stN_1 : ¬ L k < lv → stN L u.1 lv k = u.1 k := fun h => if_neg h
    by_cases hl : lv ≤ L k
    · rw [stN_1 (by omega)] at st
      rcases w4 with _ | v4
      · refine mz_go [29] 40 ?_
        simp only [mz_r0, mk_lit, mk_fin, mk_cat, mk_fit, mk_nar, mk_cls, mk_ty, mk_isr, List.mem_cons, List.not_mem_nil, or_false, or_true, false_or, true_or, Nat.reduceEqDiff, Nat.reduceAdd, Nat.reduceSub, Nat.reduceLT, Nat.reduceLeDiff, ↓reduceIte, if_true, if_false, List.getElem?_cons_zero, List.getElem?_cons_succ, List.set_cons_zero, List.set_cons_succ, List.length_cons, List.length_nil, mz_s1, mz_s2, mz_cl, true_and, and_true, false_and, and_false, List.append_nil, mk_b0, mk_b1, mk_b2, mk_bn, Value.int.injEq, Option.toList_some, Option.toList_none, List.cons_append, List.nil_append, Classical.not_not, Option.some.injEq, reduceCtorEq, ne_eq, not_true_eq_false, not_false_eq_true, false_implies, true_implies, ev_37, ev_0, ev_56, ev_41, ev_79, ft_1_2, fn_1_2, ev_68, ev_61, ft_10_0, fn_10_0, ev_42, ev_64, mz_rl d_Tabulator_isAnyOverrun_2, mz_rl d_Tabulator_isAnyOverrun_3, mz_rl d_Tabulator_isAnyOverrun_4, mz_rl d_Tabulator_isAnyOverrun_7, mz_rl d_Tabulator_isAnyOverrun_8, mz_rl d_Tabulator_isAnyOverrun_11, mz_rl d_Tabulator_isAnyOverrun_12, mz_rl d_Tabulator_isAnyOverrun_13, mz_rl d_Tabulator_isAnyOverrun_14, mz_rl d_Tabulator_isAnyOverrun_17, mz_rl d_Tabulator_isAnyOverrun_18, mz_rl d_Tabulator_isAnyOverrun_21, mz_rl d_Tabulator_isAnyOverrun_22, mz_rl d_Tabulator_isAnyOverrun_25, mz_rl d_Tabulator_isAnyOverrun_26, mz_rl d_Tabulator_isAnyOverrun_27, mz_rl d_Tabulator_isAnyOverrun_54, mz_rl d_Tabulator_isAnyOverrun_55, j_Tabulator_isAnyOverrun_4, j_Tabulator_isAnyOverrun_14, j_Tabulator_isAnyOverrun_18, nF_10, nI_leI (show 4 < 2 ^ 31 by decide) (show k < 2 ^ 31 by omega), show ¬ 4 ≤ k by omega, hB.1, hB.2.2.2, h16, k7, vp_in_nI (show k < 4 by omega) (show 4 < 2 ^ 31 by decide), nI_clamp (show k < 2 ^ 31 by omega), nI_leI (show lv < 2 ^ 31 by omega) (show L k < 2 ^ 31 by omega), eq_true hl]
        exact st
      · have h4' := h4 v4 rfl
        refine mz_go [29] 40 ?_
        simp only [mz_r0, mk_lit, mk_fin, mk_cat, mk_fit, mk_nar, mk_cls, mk_ty, mk_isr, List.mem_cons, List.not_mem_nil, or_false, or_true, false_or, true_or, Nat.reduceEqDiff, Nat.reduceAdd, Nat.reduceSub, Nat.reduceLT, Nat.reduceLeDiff, ↓reduceIte, if_true, if_false, List.getElem?_cons_zero, List.getElem?_cons_succ, List.set_cons_zero, List.set_cons_succ, List.length_cons, List.length_nil, mz_s1, mz_s2, mz_cl, true_and, and_true, false_and, and_false, List.append_nil, mk_b0, mk_b1, mk_b2, mk_bn, Value.int.injEq, Option.toList_some, Option.toList_none, List.cons_append, List.nil_append, Classical.not_not, Option.some.injEq, reduceCtorEq, ne_eq, not_true_eq_false, not_false_eq_true, false_implies, true_implies, ev_37, ev_0, ev_56, ev_41, ev_79, ft_1_2, fn_1_2, ev_68, ev_61, ft_10_0, fn_10_0, ev_42, ev_64, mz_rl d_Tabulator_isAnyOverrun_2, mz_rl d_Tabulator_isAnyOverrun_3, mz_rl d_Tabulator_isAnyOverrun_4, mz_rl d_Tabulator_isAnyOverrun_7, mz_rl d_Tabulator_isAnyOverrun_8, mz_rl d_Tabulator_isAnyOverrun_11, mz_rl d_Tabulator_isAnyOverrun_12, mz_rl d_Tabulator_isAnyOverrun_13, mz_rl d_Tabulator_isAnyOverrun_14, mz_rl d_Tabulator_isAnyOverrun_17, mz_rl d_Tabulator_isAnyOverrun_18, mz_rl d_Tabulator_isAnyOverrun_21, mz_rl d_Tabulator_isAnyOverrun_22, mz_rl d_Tabulator_isAnyOverrun_25, mz_rl d_Tabulator_isAnyOverrun_26, mz_rl d_Tabulator_isAnyOverrun_27, mz_rl d_Tabulator_isAnyOverrun_54, mz_rl d_Tabulator_isAnyOverrun_55, j_Tabulator_isAnyOverrun_4, j_Tabulator_isAnyOverrun_14, j_Tabulator_isAnyOverrun_18, nF_10, nI_leI (show 4 < 2 ^ 31 by decide) (show k < 2 ^ 31 by omega), show ¬ 4 ≤ k by omega, hB.1, hB.2.2.2, h16, k7, vp_in_nI (show k < 4 by omega) (show 4 < 2 ^ 31 by decide), nI_clamp (show k < 2 ^ 31 by omega), nI_leI (show lv < 2 ^ 31 by omega) (show L k < 2 ^ 31 by omega), eq_true hl, h4']
        exact st
    · rw [stN_0 (by omega)] at st
      rcases w4 with _ | v4
      · refine mz_go [29] 40 ?_
        simp only [mz_r0, mk_lit, mk_fin, mk_cat, mk_fit, mk_nar, mk_cls, mk_ty, mk_isr, List.mem_cons, List.not_mem_nil, or_false, or_true, false_or, true_or, Nat.reduceEqDiff, Nat.reduceAdd, Nat.reduceSub, Nat.reduceLT, Nat.reduceLeDiff, ↓reduceIte, if_true, if_false, List.getElem?_cons_zero, List.getElem?_cons_succ, List.set_cons_zero, List.set_cons_succ, List.length_cons, List.length_nil, mz_s1, mz_s2, mz_cl, true_and, and_true, false_and, and_false, List.append_nil, mk_b0, mk_b1, mk_b2, mk_bn, Value.int.injEq, Option.toList_some, Option.toList_none, List.cons_append, List.nil_append, Classical.not_not, Option.some.injEq, reduceCtorEq, ne_eq, not_true_eq_false, not_false_eq_true, false_implies, true_implies, ev_37, ev_0, ev_56, ev_41, ev_79, ft_1_2, fn_1_2, ev_68, ev_61, ft_10_0, fn_10_0, ev_42, ev_64, mz_rl d_Tabulator_isAnyOverrun_2, mz_rl d_Tabulator_isAnyOverrun_3, mz_rl d_Tabulator_isAnyOverrun_4, mz_rl d_Tabulator_isAnyOverrun_7, mz_rl d_Tabulator_isAnyOverrun_8, mz_rl d_Tabulator_isAnyOverrun_11, mz_rl d_Tabulator_isAnyOverrun_12, mz_rl d_Tabulator_isAnyOverrun_13, mz_rl d_Tabulator_isAnyOverrun_14, mz_rl d_Tabulator_isAnyOverrun_17, mz_rl d_Tabulator_isAnyOverrun_18, mz_rl d_Tabulator_isAnyOverrun_21, mz_rl d_Tabulator_isAnyOverrun_22, mz_rl d_Tabulator_isAnyOverrun_25, mz_rl d_Tabulator_isAnyOverrun_26, mz_rl d_Tabulator_isAnyOverrun_27, mz_rl d_Tabulator_isAnyOverrun_54, mz_rl d_Tabulator_isAnyOverrun_55, j_Tabulator_isAnyOverrun_4, j_Tabulator_isAnyOverrun_14, j_Tabulator_isAnyOverrun_18, nF_10, nI_leI (show 4 < 2 ^ 31 by decide) (show k < 2 ^ 31 by omega), show ¬ 4 ≤ k by omega, hB.1, hB.2.2.2, h16, k7, vp_in_nI (show k < 4 by omega) (show 4 < 2 ^ 31 by decide), nI_clamp (show k < 2 ^ 31 by omega), nI_leI (show lv < 2 ^ 31 by omega) (show L k < 2 ^ 31 by omega), eq_false hl]
        exact st
      · have h4' := h4 v4 rfl
        refine mz_go [29] 40 ?_
        simp only [mz_r0, mk_lit, mk_fin, mk_cat, mk_fit, mk_nar, mk_cls, mk_ty, mk_isr, List.mem_cons, List.not_mem_nil, or_false, or_true, false_or, true_or, Nat.reduceEqDiff, Nat.reduceAdd, Nat.reduceSub, Nat.reduceLT, Nat.reduceLeDiff, ↓reduceIte, if_true, if_false, List.getElem?_cons_zero, List.getElem?_cons_succ, List.set_cons_zero, List.set_cons_succ, List.length_cons, List.length_nil, mz_s1, mz_s2, mz_cl, true_and, and_true, false_and, and_false, List.append_nil, mk_b0, mk_b1, mk_b2, mk_bn, Value.int.injEq, Option.toList_some, Option.toList_none, List.cons_append, List.nil_append, Classical.not_not, Option.some.injEq, reduceCtorEq, ne_eq, not_true_eq_false, not_false_eq_true, false_implies, true_implies, ev_37, ev_0, ev_56, ev_41, ev_79, ft_1_2, fn_1_2, ev_68, ev_61, ft_10_0, fn_10_0, ev_42, ev_64, mz_rl d_Tabulator_isAnyOverrun_2, mz_rl d_Tabulator_isAnyOverrun_3, mz_rl d_Tabulator_isAnyOverrun_4, mz_rl d_Tabulator_isAnyOverrun_7, mz_rl d_Tabulator_isAnyOverrun_8, mz_rl d_Tabulator_isAnyOverrun_11, mz_rl d_Tabulator_isAnyOverrun_12, mz_rl d_Tabulator_isAnyOverrun_13, mz_rl d_Tabulator_isAnyOverrun_14, mz_rl d_Tabulator_isAnyOverrun_17, mz_rl d_Tabulator_isAnyOverrun_18, mz_rl d_Tabulator_isAnyOverrun_21, mz_rl d_Tabulator_isAnyOverrun_22, mz_rl d_Tabulator_isAnyOverrun_25, mz_rl d_Tabulator_isAnyOverrun_26, mz_rl d_Tabulator_isAnyOverrun_27, mz_rl d_Tabulator_isAnyOverrun_54, mz_rl d_Tabulator_isAnyOverrun_55, j_Tabulator_isAnyOverrun_4, j_Tabulator_isAnyOverrun_14, j_Tabulator_isAnyOverrun_18, nF_10, nI_leI (show 4 < 2 ^ 31 by decide) (show k < 2 ^ 31 by omega), show ¬ 4 ≤ k by omega, hB.1, hB.2.2.2, h16, k7, vp_in_nI (show k < 4 by omega) (show 4 < 2 ^ 31 by decide), nI_clamp (show k < 2 ^ 31 by omega), nI_leI (show lv < 2 ^ 31 by omega) (show L k < 2 ^ 31 by omega), eq_false hl, h4']
        exact st
theorem c_Tabulator_isAnyOverrun (G : mz_G) (n : Nat) (f : mz_H) {b w lv : Nat} {F T L t : Nat → Nat} {u : tT} (hE : f 1000000000001 = mz_d) (hT : Tb f u.2.1) (hX : TT f u) (hen : En f F T t w) (ht : ∀ j, j < 16 → sg (t j)) (hB : Bd f b w F T L) (hok : BdOk w F T L) (hlv : lv ≤ 4) :
    mz_Ct G mk_P y_Tabulator_isAnyOverrun b_Tabulator_isAnyOverrun 5 (some .boolean) (r_Tabulator_isAnyOverrun 0 0) [.ref 16, .ref b, .int (nI lv)] n f (fun v n' f' => v = some (.int (mk_b (ovB F T L u.1 t w lv 4 = true))) ∧ n' = n ∧ f' = f) := by
  refine mk_Ct 10 false [some (.ref 16), some (.ref b), some (.int (nI lv)), none, none] (by decide) rfl (by decide) (Nat.le_of_ble_eq_true rfl) rfl ?_
  refine mz_go [2] 20 ?_
  simp only [mz_r0, mk_lit, mk_fin, mk_cat, mk_fit, mk_nar, mk_cls, mk_ty, mk_isr, List.mem_cons, List.not_mem_nil, or_false, or_true, false_or, true_or, Nat.reduceEqDiff, Nat.reduceAdd, Nat.reduceSub, Nat.reduceLT, Nat.reduceLeDiff, ↓reduceIte, if_true, if_false, List.getElem?_cons_zero, List.getElem?_cons_succ, List.set_cons_zero, List.set_cons_succ, List.length_cons, List.length_nil, mz_s1, mz_s2, mz_cl, true_and, and_true, false_and, and_false, List.append_nil, mk_b0, mk_b1, mk_b2, mk_bn, Value.int.injEq, Option.toList_some, Option.toList_none, List.cons_append, List.nil_append, Classical.not_not, Option.some.injEq, reduceCtorEq, ne_eq, not_true_eq_false, not_false_eq_true, false_implies, true_implies, ev_0, ev_43, mz_rl d_Tabulator_isAnyOverrun_0, mz_rl d_Tabulator_isAnyOverrun_1, nF_10]
  exact l_Tabulator_isAnyOverrun G n f hE hT hX hen ht hB hok hlv _ rfl 4 0 none (by omega) rfl (fun v hv => by cases hv)
end
section
/-- what a card's fault says, and what its jacks then hold -/
def fcP (f : mz_H) (n : Nat) (F T L t : Nat → Nat) (w lv : Nat) (u : tT) (v : Option Value) (n' : Nat) (f' : mz_H) : Prop := v = some (.int (nI (fcN F T L t w lv u))) ∧ n' = n ∧ Tb f' u.2.1 ∧ TT f' u ∧ FrT f f' ∧ (fcN F T L t w lv u = 0 → En f' F T t w ∧ (lsB T 0 w = true → Ln f' F T t w))
theorem TT_jH {H : mz_H} {u : tT} (h : TT H u) {j ja q N : Nat} {g : Nat → Int32} {cl : Int32} (hj : 120 ≤ j) (hja : 120 ≤ ja) : TT (jH H j ja q N g cl) u := TT_eq h (fun z hz => by unfold jH; rw [mz_u_n (by omega), mz_u_n (by omega)])
theorem c_Tabulator_faultOfCard (G : mz_G) (n : Nat) (f : mz_H) {b w lv y K : Nat} {F T L : Nat → Nat} {s : Nat → Nat → Nat} {u : tT} (hE : f 1000000000001 = mz_d) (hT : Tb f u.2.1) (hX : TT f u) (hB : Bd f b w F T L) (hok : BdOk w F T L) (hb : 126 < b) (hlv : lv ≤ 4) (hC : Cd f K s) (hy : y < K) :
    mz_Ct G mk_P y_Tabulator_faultOfCard b_Tabulator_faultOfCard 6 (some .int) (r_Tabulator_faultOfCard 0 0) [.ref 16, .ref b, .ref (172 + 2 * y), .int (nI lv), .int (mk_b (lsB T 0 w = true))] n f (fcP f n F T L (s y) w lv u) := by
  have h16 := hT.1
  have htl := tlN_le L lv
  have ht := (hC y hy).2.2
  obtain ⟨cl, k1⟩ := hT.2.2.2.2.2.2.1
  obtain ⟨g, k2⟩ := hT.2.2.2.2.2.2.2.1
  refine mk_Ct 10 false [some (.ref 16), some (.ref b), some (.ref (172 + 2 * y)), some (.int (nI lv)), some (.int (mk_b (lsB T 0 w = true))), none] (by decide) rfl (by decide) (Nat.le_of_ble_eq_true rfl) rfl ?_
  have q0 := mk_b0 (lsB T 0 w = true)
  generalize mk_b (lsB T 0 w = true) = q4 at q0 ⊢
  refine mz_go [6] 20 ?_
  simp only [mz_r0, mk_lit, mk_fin, mk_cat, mk_fit, mk_nar, mk_cls, mk_ty, mk_isr, List.mem_cons, List.not_mem_nil, or_false, or_true, false_or, true_or, Nat.reduceEqDiff, Nat.reduceAdd, Nat.reduceSub, Nat.reduceLT, Nat.reduceLeDiff, ↓reduceIte, if_true, if_false, List.getElem?_cons_zero, List.getElem?_cons_succ, List.set_cons_zero, List.set_cons_succ, List.length_cons, List.length_nil, mz_s1, mz_s2, mz_cl, true_and, and_true, false_and, and_false, List.append_nil, mk_b0, mk_b1, mk_b2, mk_bn, Value.int.injEq, Option.toList_some, Option.toList_none, List.cons_append, List.nil_append, Classical.not_not, Option.some.injEq, reduceCtorEq, ne_eq, not_true_eq_false, not_false_eq_true, false_implies, true_implies, ev_41, ev_79, ft_10_3, fn_10_3, mz_rl d_Tabulator_faultOfCard_0, mz_rl d_Tabulator_faultOfCard_1, mz_rl d_Tabulator_faultOfCard_2, mz_rl d_Tabulator_faultOfCard_3, nF_10, h16]
  refine mz_callV (by simp only [d_Tabulator_faultOfCard_6, Nat.reduceAdd]) g_10_93 rfl (fun _ _ h => h) (c_Board_bringFromCard G mk_P n f hB hok hC hy k1 k2 (by decide) (by decide) (by omega) (by omega) (by decide)) hB.1 rfl rfl (by decide) (Nat.le_of_ble_eq_true rfl) rfl ?_; intro v_ n_ f_ h_; obtain ⟨rfl, hn_, hf_⟩ := h_; replace hn_ := hn_.symm; replace hf_ := hf_.symm; subst hn_; subst hf_
  obtain ⟨Q, hQ⟩ : ∃ Q, Q = brC F T (s y) 32 24 w (cpy (fun _ => -1) g 24, nI 0) := ⟨_, rfl⟩
  obtain ⟨p1, p2⟩ := brC_24 (q := 32) (g := g) hok ht
  rw [← hQ] at p1 p2 ⊢
  have hT2 := Tb_122 hT Q.1 Q.2
  have hF2 : FrT f _ := FrT_jH (j := 122) (ja := 123) (q := 32) (N := 24) (g := Q.1) (cl := Q.2) FrT_rf (by decide) (by decide)
  have hX2 : TT (jH f 122 123 32 24 Q.1 Q.2) u := TT_jH hX (by decide) (by decide)
  have a2 : jH f 122 123 32 24 Q.1 Q.2 122 = .inr (6, [.int (nI 32), .ref 123, .int Q.2]) := mz_u_s _ _ _
  have a3 : jH f 122 123 32 24 Q.1 Q.2 123 = aI 24 Q.1 := by unfold jH; rw [mz_u_n (by decide)]; exact mz_u_s _ _ _
  generalize jH f 122 123 32 24 Q.1 Q.2 = H2 at hT2 hF2 hX2 a2 a3 ⊢
  have h162 := hT2.1
  have hB2 := Bd_T hF2 hB hb
  have hC2 := Cd_T hF2 hC
  obtain ⟨cl2, k12⟩ := hT2.2.2.2.2.2.2.2.2.1
  obtain ⟨g2, k22⟩ := hT2.2.2.2.2.2.2.2.2.2
  refine mz_go [15] 20 ?_
  simp only [mz_r0, mk_lit, mk_fin, mk_cat, mk_fit, mk_nar, mk_cls, mk_ty, mk_isr, List.mem_cons, List.not_mem_nil, or_false, or_true, false_or, true_or, Nat.reduceEqDiff, Nat.reduceAdd, Nat.reduceSub, Nat.reduceLT, Nat.reduceLeDiff, ↓reduceIte, if_true, if_false, List.getElem?_cons_zero, List.getElem?_cons_succ, List.set_cons_zero, List.set_cons_succ, List.length_cons, List.length_nil, mz_s1, mz_s2, mz_cl, true_and, and_true, false_and, and_false, List.append_nil, mk_b0, mk_b1, mk_b2, mk_bn, Value.int.injEq, Option.toList_some, Option.toList_none, List.cons_append, List.nil_append, Classical.not_not, Option.some.injEq, reduceCtorEq, ne_eq, not_true_eq_false, not_false_eq_true, false_implies, true_implies, ev_41, ev_79, ft_10_4, fn_10_4, mz_rl d_Tabulator_faultOfCard_9, mz_rl d_Tabulator_faultOfCard_10, mz_rl d_Tabulator_faultOfCard_11, mz_rl d_Tabulator_faultOfCard_12, nF_10, h162]
  refine mz_callV (by simp only [d_Tabulator_faultOfCard_15, Nat.reduceAdd]) g_10_93 rfl (fun _ _ h => h) (c_Board_bringFromCard G mk_P n H2 hB2 hok hC2 hy k12 k22 (by decide) (by decide) (by omega) (by omega) (by decide)) hB2.1 rfl rfl (by decide) (Nat.le_of_ble_eq_true rfl) rfl ?_; intro v_ n_ f_ h_; obtain ⟨rfl, hn_, hf_⟩ := h_; replace hn_ := hn_.symm; replace hf_ := hf_.symm; subst hn_; subst hf_
  obtain ⟨Q2, hQ2⟩ : ∃ Q, Q = brC F T (s y) 64 24 w (cpy (fun _ => -1) g2 24, nI 0) := ⟨_, rfl⟩
  obtain ⟨p3, p4⟩ := brC_24 (q := 64) (g := g2) hok ht
  rw [← hQ2] at p3 p4 ⊢
  have hT3 := Tb_124 hT2 Q2.1 Q2.2
  have hF3 : FrT f _ := FrT_jH (j := 124) (ja := 125) (q := 64) (N := 24) (g := Q2.1) (cl := Q2.2) hF2 (by decide) (by decide)
  have hX3 : TT (jH H2 124 125 64 24 Q2.1 Q2.2) u := TT_jH hX2 (by decide) (by decide)
  have b2 : jH H2 124 125 64 24 Q2.1 Q2.2 122 = .inr (6, [.int (nI 32), .ref 123, .int Q.2]) := by unfold jH; rw [mz_u_n (by decide), mz_u_n (by decide)]; exact a2
  have b3 : jH H2 124 125 64 24 Q2.1 Q2.2 123 = aI 24 Q.1 := by unfold jH; rw [mz_u_n (by decide), mz_u_n (by decide)]; exact a3
  have b4 : jH H2 124 125 64 24 Q2.1 Q2.2 124 = .inr (6, [.int (nI 64), .ref 125, .int Q2.2]) := mz_u_s _ _ _
  have b5 : jH H2 124 125 64 24 Q2.1 Q2.2 125 = aI 24 Q2.1 := by unfold jH; rw [mz_u_n (by decide)]; exact mz_u_s _ _ _
  generalize jH H2 124 125 64 24 Q2.1 Q2.2 = H3 at hT3 hF3 hX3 b2 b3 b4 b5 ⊢
  have h163 := hT3.1
  have hB3 := Bd_T hF3 hB hb
  refine mz_go [21] 20 ?_
  simp only [mz_r0, mk_lit, mk_fin, mk_cat, mk_fit, mk_nar, mk_cls, mk_ty, mk_isr, List.mem_cons, List.not_mem_nil, or_false, or_true, false_or, true_or, Nat.reduceEqDiff, Nat.reduceAdd, Nat.reduceSub, Nat.reduceLT, Nat.reduceLeDiff, ↓reduceIte, if_true, if_false, List.getElem?_cons_zero, List.getElem?_cons_succ, List.set_cons_zero, List.set_cons_succ, List.length_cons, List.length_nil, mz_s1, mz_s2, mz_cl, true_and, and_true, false_and, and_false, List.append_nil, mk_b0, mk_b1, mk_b2, mk_bn, Value.int.injEq, Option.toList_some, Option.toList_none, List.cons_append, List.nil_append, Classical.not_not, Option.some.injEq, reduceCtorEq, ne_eq, not_true_eq_false, not_false_eq_true, false_implies, true_implies, ev_41, ev_37, mz_rl d_Tabulator_faultOfCard_18, mz_rl d_Tabulator_faultOfCard_19, mz_rl d_Tabulator_faultOfCard_20, nF_10]
  refine mz_callV (by simp only [d_Tabulator_faultOfCard_21, Nat.reduceAdd]) g_10_97 rfl (fun _ _ h => h) (c_Tabulator_totalsClash G n H3 (E_T hF3 hE) hT3 hX3 hB3 hok hb hlv) h163 rfl rfl (by decide) (Nat.le_of_ble_eq_true rfl) rfl ?_; rintro v_ n_ f_ ⟨rfl, rfl, hT4, hX4, hF4, hn4⟩
  have hF4' := FrT_tr hF3 hF4
  have hB4 := Bd_T hF4' hB hb
  have hE4 := E_T hF4' hE
  have h164 := hT4.1
  have d2 := (hn4 122 (by decide)).trans b2
  have d3 := (hn4 123 (by decide)).trans b3
  have d4 := (hn4 124 (by decide)).trans b4
  have d5 := (hn4 125 (by decide)).trans b5
  rw [p1] at d2
  rw [p3] at d4
  have done : ∀ r, fcN F T L (s y) w lv u = r → (r = 0 → En f_ F T (s y) w ∧ (lsB T 0 w = true → Ln f_ F T (s y) w)) → fcP f n_ F T L (s y) w lv u (some (.int (nI r))) n_ f_ := fun r hr h0 => by
    subst hr; exact ⟨rfl, rfl, hT4, hX4, hF4', h0⟩
  have two : (tcB F T L u.1 w lv = true ∨ (lsB T 0 w = true ∧ clB F T (s y) 32 w 24 = true) ∨ clB F T (s y) 64 w 24 = true) → fcP f n_ F T L (s y) w lv u (some (.int (nI 2))) n_ f_ := fun h => done 2 (if_pos h) (fun e => absurd e (by decide))
  have rest : ¬ tcB F T L u.1 w lv = true → (lsB T 0 w = true → clB F T (s y) 32 w 24 = false) → clB F T (s y) 64 w 24 = false → mz_X G mk_P 10 false b_Tabulator_faultOfCard 6 (some .int) (r_Tabulator_faultOfCard 0 0) (fcP f n_ F T L (s y) w lv u) (fun _ _ _ => False) 54 [some (.ref 16), some (.ref b), some (.ref (172 + 2 * y)), some (.int (nI lv)), some (.int q4), none] [] 0 0 n_ f_ := by
    intro c1 c2 c3
    have hen : En f_ F T (s y) w := ⟨Q2.1, d5, fun p hp => ⟨p4 c3 p hp, clN_not c3 hp, arN_sg hok ht⟩⟩
    have hln : lsB T 0 w = true → Ln f_ F T (s y) w := fun hl => ⟨Q.1, d3, fun p hp => by rw [p2 (c2 hl) p hp]; exact prN_c (arN_sg hok ht) (clN_not (c2 hl) hp)⟩
    have fr : fcN F T L (s y) w lv u = if ovB F T L u.1 (s y) w lv 4 = true then 3 else if u.2.1 + tlN L lv + (if lsB T 0 w = true then 1 else 0) ≤ 100 then 0 else 4 := if_neg (by
      rintro (z | ⟨z1, z2⟩ | z)
      · exact c1 z
      · rw [c2 z1] at z2; cases z2
      · rw [c3] at z; cases z)
    refine mz_go [57] 20 ?_
    simp only [mz_r0, mk_lit, mk_fin, mk_cat, mk_fit, mk_nar, mk_cls, mk_ty, mk_isr, List.mem_cons, List.not_mem_nil, or_false, or_true, false_or, true_or, Nat.reduceEqDiff, Nat.reduceAdd, Nat.reduceSub, Nat.reduceLT, Nat.reduceLeDiff, ↓reduceIte, if_true, if_false, List.getElem?_cons_zero, List.getElem?_cons_succ, List.set_cons_zero, List.set_cons_succ, List.length_cons, List.length_nil, mz_s1, mz_s2, mz_cl, true_and, and_true, false_and, and_false, List.append_nil, mk_b0, mk_b1, mk_b2, mk_bn, Value.int.injEq, Option.toList_some, Option.toList_none, List.cons_append, List.nil_append, Classical.not_not, Option.some.injEq, reduceCtorEq, ne_eq, not_true_eq_false, not_false_eq_true, false_implies, true_implies, ev_41, ev_37, mz_rl d_Tabulator_faultOfCard_54, mz_rl d_Tabulator_faultOfCard_55, mz_rl d_Tabulator_faultOfCard_56, nF_10]
    refine mz_callV (by simp only [d_Tabulator_faultOfCard_57, Nat.reduceAdd]) g_10_105 rfl (fun _ _ h => h) (c_Tabulator_isAnyOverrun G _ f_ hE4 hT4 hX4 hen ht hB4 hok hlv) h164 rfl rfl (by decide) (Nat.le_of_ble_eq_true rfl) rfl ?_; intro v_ n_ f_ h_; obtain ⟨rfl, hn_, hf_⟩ := h_; replace hn_ := hn_.symm; replace hf_ := hf_.symm; subst hn_; subst hf_
    by_cases hov : ovB F T L u.1 (s y) w lv 4 = true
    · refine mz_go [] 20 ?_
      simp only [mz_r0, mk_lit, mk_fin, mk_cat, mk_fit, mk_nar, mk_cls, mk_ty, mk_isr, List.mem_cons, List.not_mem_nil, or_false, or_true, false_or, true_or, Nat.reduceEqDiff, Nat.reduceAdd, Nat.reduceSub, Nat.reduceLT, Nat.reduceLeDiff, ↓reduceIte, if_true, if_false, List.getElem?_cons_zero, List.getElem?_cons_succ, List.set_cons_zero, List.set_cons_succ, List.length_cons, List.length_nil, mz_s1, mz_s2, mz_cl, true_and, and_true, false_and, and_false, List.append_nil, mk_b0, mk_b1, mk_b2, mk_bn, Value.int.injEq, Option.toList_some, Option.toList_none, List.cons_append, List.nil_append, Classical.not_not, Option.some.injEq, reduceCtorEq, ne_eq, not_true_eq_false, not_false_eq_true, false_implies, true_implies, ev_49, ev_0, ev_64, ev_41, ev_37, mz_rl d_Tabulator_faultOfCard_60, mz_rl d_Tabulator_faultOfCard_63, mz_rl d_Tabulator_faultOfCard_64, mz_rl d_Tabulator_faultOfCard_65, mz_rl d_Tabulator_faultOfCard_66, mz_rl d_Tabulator_faultOfCard_67, j_Tabulator_faultOfCard_60, nF_10, eq_true hov]
      exact done 3 (by rw [fr, if_pos hov]) (fun e => absurd e (by decide))
    · refine mz_go [67] 20 ?_
      simp only [mz_r0, mk_lit, mk_fin, mk_cat, mk_fit, mk_nar, mk_cls, mk_ty, mk_isr, List.mem_cons, List.not_mem_nil, or_false, or_true, false_or, true_or, Nat.reduceEqDiff, Nat.reduceAdd, Nat.reduceSub, Nat.reduceLT, Nat.reduceLeDiff, ↓reduceIte, if_true, if_false, List.getElem?_cons_zero, List.getElem?_cons_succ, List.set_cons_zero, List.set_cons_succ, List.length_cons, List.length_nil, mz_s1, mz_s2, mz_cl, true_and, and_true, false_and, and_false, List.append_nil, mk_b0, mk_b1, mk_b2, mk_bn, Value.int.injEq, Option.toList_some, Option.toList_none, List.cons_append, List.nil_append, Classical.not_not, Option.some.injEq, reduceCtorEq, ne_eq, not_true_eq_false, not_false_eq_true, false_implies, true_implies, ev_49, ev_0, ev_64, ev_41, ev_37, mz_rl d_Tabulator_faultOfCard_60, mz_rl d_Tabulator_faultOfCard_63, mz_rl d_Tabulator_faultOfCard_64, mz_rl d_Tabulator_faultOfCard_65, mz_rl d_Tabulator_faultOfCard_66, j_Tabulator_faultOfCard_60, nF_10, eq_false hov]
      refine mz_callS (by simp only [d_Tabulator_faultOfCard_67, Nat.reduceAdd]) g_10_108 rfl (fun _ _ h => h) (c_Tabulator_totalLines G mk_P _ f_ hB4 hok hlv) (by decide) (Nat.le_of_ble_eq_true rfl) rfl ?_; intro v_ n_ f_ h_; obtain ⟨rfl, hn_, hf_⟩ := h_; replace hn_ := hn_.symm; replace hf_ := hf_.symm; subst hn_; subst hf_
      rw [if_neg hov] at fr
      have hl : ∀ d : Nat, d ≤ 1 → (if lsB T 0 w = true then 1 else 0) = d → mz_X G mk_P 10 false b_Tabulator_faultOfCard 6 (some .int) (r_Tabulator_faultOfCard 0 0) (fcP f n_ F T L (s y) w lv u) (fun _ _ _ => False) 80 [some (.ref 16), some (.ref b), some (.ref (172 + 2 * y)), some (.int (nI lv)), some (.int q4), none] [.int (nI d), .int (nI (tlN L lv))] 0 0 n_ f_ := by
        intro d hd hg
        rw [hg] at fr
        refine mz_go [89] 20 ?_
        simp only [mz_r0, mk_lit, mk_fin, mk_cat, mk_fit, mk_nar, mk_cls, mk_ty, mk_isr, List.mem_cons, List.not_mem_nil, or_false, or_true, false_or, true_or, Nat.reduceEqDiff, Nat.reduceAdd, Nat.reduceSub, Nat.reduceLT, Nat.reduceLeDiff, ↓reduceIte, if_true, if_false, List.getElem?_cons_zero, List.getElem?_cons_succ, List.set_cons_zero, List.set_cons_succ, List.length_cons, List.length_nil, mz_s1, mz_s2, mz_cl, true_and, and_true, false_and, and_false, List.append_nil, mk_b0, mk_b1, mk_b2, mk_bn, Value.int.injEq, Option.toList_some, Option.toList_none, List.cons_append, List.nil_append, Classical.not_not, Option.some.injEq, reduceCtorEq, ne_eq, not_true_eq_false, not_false_eq_true, false_implies, true_implies, ev_5, ev_42, ev_41, ev_79, ft_10_1, fn_10_1, ev_36, mz_rl d_Tabulator_faultOfCard_80, mz_rl d_Tabulator_faultOfCard_81, mz_rl d_Tabulator_faultOfCard_83, mz_rl d_Tabulator_faultOfCard_84, mz_rl d_Tabulator_faultOfCard_87, nF_10, h164, nI_add]
        refine mz_callV (by simp only [d_Tabulator_faultOfCard_89, Nat.reduceAdd]) g_10_112 rfl (fun _ _ h => h) (c_Paper_hasRoomFor G mk_P _ f_ (m := tlN L lv + d) hT4.2.2.1.1 hT4.2.2.2.1 (show tlN L lv + d ≤ 100 by omega)) hT4.2.2.1.1 rfl rfl (by decide) (Nat.le_of_ble_eq_true rfl) rfl ?_; intro v_ n_ f_ h_; obtain ⟨rfl, hn_, hf_⟩ := h_; replace hn_ := hn_.symm; replace hf_ := hf_.symm; subst hn_; subst hf_
        by_cases hr : u.2.1 + (tlN L lv + d) ≤ 100
        · refine mz_go [] 20 ?_
          simp only [mz_r0, mk_lit, mk_fin, mk_cat, mk_fit, mk_nar, mk_cls, mk_ty, mk_isr, List.mem_cons, List.not_mem_nil, or_false, or_true, false_or, true_or, Nat.reduceEqDiff, Nat.reduceAdd, Nat.reduceSub, Nat.reduceLT, Nat.reduceLeDiff, ↓reduceIte, if_true, if_false, List.getElem?_cons_zero, List.getElem?_cons_succ, List.set_cons_zero, List.set_cons_succ, List.length_cons, List.length_nil, mz_s1, mz_s2, mz_cl, true_and, and_true, false_and, and_false, List.append_nil, mk_b0, mk_b1, mk_b2, mk_bn, Value.int.injEq, Option.toList_some, Option.toList_none, List.cons_append, List.nil_append, Classical.not_not, Option.some.injEq, reduceCtorEq, ne_eq, not_true_eq_false, not_false_eq_true, false_implies, true_implies, ev_49, ev_0, ev_61, ev_64, mz_rl d_Tabulator_faultOfCard_92, mz_rl d_Tabulator_faultOfCard_95, mz_rl d_Tabulator_faultOfCard_96, mz_rl d_Tabulator_faultOfCard_99, mz_rl d_Tabulator_faultOfCard_100, j_Tabulator_faultOfCard_92, j_Tabulator_faultOfCard_96, nF_10, eq_true hr]
          exact done 0 (by rw [fr, if_pos (by omega)]) (fun _ => ⟨hen, hln⟩)
        · refine mz_go [] 20 ?_
          simp only [mz_r0, mk_lit, mk_fin, mk_cat, mk_fit, mk_nar, mk_cls, mk_ty, mk_isr, List.mem_cons, List.not_mem_nil, or_false, or_true, false_or, true_or, Nat.reduceEqDiff, Nat.reduceAdd, Nat.reduceSub, Nat.reduceLT, Nat.reduceLeDiff, ↓reduceIte, if_true, if_false, List.getElem?_cons_zero, List.getElem?_cons_succ, List.set_cons_zero, List.set_cons_succ, List.length_cons, List.length_nil, mz_s1, mz_s2, mz_cl, true_and, and_true, false_and, and_false, List.append_nil, mk_b0, mk_b1, mk_b2, mk_bn, Value.int.injEq, Option.toList_some, Option.toList_none, List.cons_append, List.nil_append, Classical.not_not, Option.some.injEq, reduceCtorEq, ne_eq, not_true_eq_false, not_false_eq_true, false_implies, true_implies, ev_49, ev_0, ev_61, ev_64, mz_rl d_Tabulator_faultOfCard_92, mz_rl d_Tabulator_faultOfCard_95, mz_rl d_Tabulator_faultOfCard_96, mz_rl d_Tabulator_faultOfCard_99, mz_rl d_Tabulator_faultOfCard_100, j_Tabulator_faultOfCard_92, j_Tabulator_faultOfCard_96, nF_10, eq_false hr]
          exact done 4 (by rw [fr, if_neg (by omega)]) (fun e => absurd e (by decide))
      by_cases hls : lsB T 0 w = true
      · have q1 : ¬ q4 = 0 := by rw [q0]; exact fun z => z hls
        refine mz_go [80] 20 ?_
        simp only [mz_r0, mk_lit, mk_fin, mk_cat, mk_fit, mk_nar, mk_cls, mk_ty, mk_isr, List.mem_cons, List.not_mem_nil, or_false, or_true, false_or, true_or, Nat.reduceEqDiff, Nat.reduceAdd, Nat.reduceSub, Nat.reduceLT, Nat.reduceLeDiff, ↓reduceIte, if_true, if_false, List.getElem?_cons_zero, List.getElem?_cons_succ, List.set_cons_zero, List.set_cons_succ, List.length_cons, List.length_nil, mz_s1, mz_s2, mz_cl, true_and, and_true, false_and, and_false, List.append_nil, mk_b0, mk_b1, mk_b2, mk_bn, Value.int.injEq, Option.toList_some, Option.toList_none, List.cons_append, List.nil_append, Classical.not_not, Option.some.injEq, reduceCtorEq, ne_eq, not_true_eq_false, not_false_eq_true, false_implies, true_implies, ev_36, ev_49, ev_0, ev_61, mz_rl d_Tabulator_faultOfCard_70, mz_rl d_Tabulator_faultOfCard_72, mz_rl d_Tabulator_faultOfCard_75, mz_rl d_Tabulator_faultOfCard_76, mz_rl d_Tabulator_faultOfCard_79, j_Tabulator_faultOfCard_72, j_Tabulator_faultOfCard_76, nF_10, eq_false q1]
        exact hl 1 (by decide) (if_pos hls)
      · have q1 : q4 = 0 := by rw [q0]; exact hls
        refine mz_go [80] 20 ?_
        simp only [mz_r0, mk_lit, mk_fin, mk_cat, mk_fit, mk_nar, mk_cls, mk_ty, mk_isr, List.mem_cons, List.not_mem_nil, or_false, or_true, false_or, true_or, Nat.reduceEqDiff, Nat.reduceAdd, Nat.reduceSub, Nat.reduceLT, Nat.reduceLeDiff, ↓reduceIte, if_true, if_false, List.getElem?_cons_zero, List.getElem?_cons_succ, List.set_cons_zero, List.set_cons_succ, List.length_cons, List.length_nil, mz_s1, mz_s2, mz_cl, true_and, and_true, false_and, and_false, List.append_nil, mk_b0, mk_b1, mk_b2, mk_bn, Value.int.injEq, Option.toList_some, Option.toList_none, List.cons_append, List.nil_append, Classical.not_not, Option.some.injEq, reduceCtorEq, ne_eq, not_true_eq_false, not_false_eq_true, false_implies, true_implies, ev_36, ev_49, ev_0, ev_61, mz_rl d_Tabulator_faultOfCard_70, mz_rl d_Tabulator_faultOfCard_72, mz_rl d_Tabulator_faultOfCard_75, mz_rl d_Tabulator_faultOfCard_76, mz_rl d_Tabulator_faultOfCard_79, j_Tabulator_faultOfCard_72, j_Tabulator_faultOfCard_76, nF_10, eq_true q1]
        exact hl 0 (by decide) (if_neg hls)
  by_cases htc : tcB F T L u.1 w lv = true
  · refine mz_go [] 20 ?_
    simp only [mz_r0, mk_lit, mk_fin, mk_cat, mk_fit, mk_nar, mk_cls, mk_ty, mk_isr, List.mem_cons, List.not_mem_nil, or_false, or_true, false_or, true_or, Nat.reduceEqDiff, Nat.reduceAdd, Nat.reduceSub, Nat.reduceLT, Nat.reduceLeDiff, ↓reduceIte, if_true, if_false, List.getElem?_cons_zero, List.getElem?_cons_succ, List.set_cons_zero, List.set_cons_succ, List.length_cons, List.length_nil, mz_s1, mz_s2, mz_cl, true_and, and_true, false_and, and_false, List.append_nil, mk_b0, mk_b1, mk_b2, mk_bn, Value.int.injEq, Option.toList_some, Option.toList_none, List.cons_append, List.nil_append, Classical.not_not, Option.some.injEq, reduceCtorEq, ne_eq, not_true_eq_false, not_false_eq_true, false_implies, true_implies, ev_51, ev_36, ev_49, ev_41, ev_79, ft_10_3, fn_10_3, ft_6_2, fn_6_2, ft_10_4, fn_10_4, ev_0, ev_64, ev_37, mz_rl d_Tabulator_faultOfCard_24, mz_rl d_Tabulator_faultOfCard_27, mz_rl d_Tabulator_faultOfCard_29, mz_rl d_Tabulator_faultOfCard_32, mz_rl d_Tabulator_faultOfCard_33, mz_rl d_Tabulator_faultOfCard_36, mz_rl d_Tabulator_faultOfCard_39, mz_rl d_Tabulator_faultOfCard_42, mz_rl d_Tabulator_faultOfCard_43, mz_rl d_Tabulator_faultOfCard_46, mz_rl d_Tabulator_faultOfCard_49, mz_rl d_Tabulator_faultOfCard_52, mz_rl d_Tabulator_faultOfCard_53, mz_rl d_Tabulator_faultOfCard_54, mz_rl d_Tabulator_faultOfCard_55, mz_rl d_Tabulator_faultOfCard_56, mz_rl d_Tabulator_faultOfCard_57, j_Tabulator_faultOfCard_24, j_Tabulator_faultOfCard_29, j_Tabulator_faultOfCard_39, j_Tabulator_faultOfCard_49, nF_10, eq_true htc]
    exact two (Or.inl htc)
  · have last : (lsB T 0 w = true → clB F T (s y) 32 w 24 = false) → mz_X G mk_P 10 false b_Tabulator_faultOfCard 6 (some .int) (r_Tabulator_faultOfCard 0 0) (fcP f n_ F T L (s y) w lv u) (fun _ _ _ => False) 42 [some (.ref 16), some (.ref b), some (.ref (172 + 2 * y)), some (.int (nI lv)), some (.int q4), none] [] 0 0 n_ f_ := by
      intro c2
      cases c3 : clB F T (s y) 64 w 24 with
      | true =>
        rw [c3] at d4
        refine mz_go [] 20 ?_
        simp only [mz_r0, mk_lit, mk_fin, mk_cat, mk_fit, mk_nar, mk_cls, mk_ty, mk_isr, List.mem_cons, List.not_mem_nil, or_false, or_true, false_or, true_or, Nat.reduceEqDiff, Nat.reduceAdd, Nat.reduceSub, Nat.reduceLT, Nat.reduceLeDiff, ↓reduceIte, if_true, if_false, List.getElem?_cons_zero, List.getElem?_cons_succ, List.set_cons_zero, List.set_cons_succ, List.length_cons, List.length_nil, mz_s1, mz_s2, mz_cl, true_and, and_true, false_and, and_false, List.append_nil, mk_b0, mk_b1, mk_b2, mk_bn, Value.int.injEq, Option.toList_some, Option.toList_none, List.cons_append, List.nil_append, Classical.not_not, Option.some.injEq, reduceCtorEq, ne_eq, not_true_eq_false, not_false_eq_true, false_implies, true_implies, ev_41, ev_79, ft_10_4, fn_10_4, ft_6_2, fn_6_2, ev_49, ev_0, ev_64, ev_37, mz_rl d_Tabulator_faultOfCard_42, mz_rl d_Tabulator_faultOfCard_43, mz_rl d_Tabulator_faultOfCard_46, mz_rl d_Tabulator_faultOfCard_49, mz_rl d_Tabulator_faultOfCard_52, mz_rl d_Tabulator_faultOfCard_53, mz_rl d_Tabulator_faultOfCard_54, mz_rl d_Tabulator_faultOfCard_55, mz_rl d_Tabulator_faultOfCard_56, mz_rl d_Tabulator_faultOfCard_57, j_Tabulator_faultOfCard_49, nF_10, h164, d4, show (true = true) = True from by simp]
        exact two (Or.inr (Or.inr c3))
      | false =>
        rw [c3] at d4
        refine mz_go [54] 20 ?_
        simp only [mz_r0, mk_lit, mk_fin, mk_cat, mk_fit, mk_nar, mk_cls, mk_ty, mk_isr, List.mem_cons, List.not_mem_nil, or_false, or_true, false_or, true_or, Nat.reduceEqDiff, Nat.reduceAdd, Nat.reduceSub, Nat.reduceLT, Nat.reduceLeDiff, ↓reduceIte, if_true, if_false, List.getElem?_cons_zero, List.getElem?_cons_succ, List.set_cons_zero, List.set_cons_succ, List.length_cons, List.length_nil, mz_s1, mz_s2, mz_cl, true_and, and_true, false_and, and_false, List.append_nil, mk_b0, mk_b1, mk_b2, mk_bn, Value.int.injEq, Option.toList_some, Option.toList_none, List.cons_append, List.nil_append, Classical.not_not, Option.some.injEq, reduceCtorEq, ne_eq, not_true_eq_false, not_false_eq_true, false_implies, true_implies, ev_41, ev_79, ft_10_4, fn_10_4, ft_6_2, fn_6_2, ev_49, ev_0, ev_64, mz_rl d_Tabulator_faultOfCard_42, mz_rl d_Tabulator_faultOfCard_43, mz_rl d_Tabulator_faultOfCard_46, mz_rl d_Tabulator_faultOfCard_49, mz_rl d_Tabulator_faultOfCard_52, mz_rl d_Tabulator_faultOfCard_53, j_Tabulator_faultOfCard_49, nF_10, h164, d4, show (false = true) = False from by simp]
        exact rest htc c2 c3
    by_cases hls : lsB T 0 w = true
    · have q1 : ¬ q4 = 0 := by rw [q0]; exact fun z => z hls
      cases c2 : clB F T (s y) 32 w 24 with
      | true =>
        rw [c2] at d2
        refine mz_go [] 20 ?_
        simp only [mz_r0, mk_lit, mk_fin, mk_cat, mk_fit, mk_nar, mk_cls, mk_ty, mk_isr, List.mem_cons, List.not_mem_nil, or_false, or_true, false_or, true_or, Nat.reduceEqDiff, Nat.reduceAdd, Nat.reduceSub, Nat.reduceLT, Nat.reduceLeDiff, ↓reduceIte, if_true, if_false, List.getElem?_cons_zero, List.getElem?_cons_succ, List.set_cons_zero, List.set_cons_succ, List.length_cons, List.length_nil, mz_s1, mz_s2, mz_cl, true_and, and_true, false_and, and_false, List.append_nil, mk_b0, mk_b1, mk_b2, mk_bn, Value.int.injEq, Option.toList_some, Option.toList_none, List.cons_append, List.nil_append, Classical.not_not, Option.some.injEq, reduceCtorEq, ne_eq, not_true_eq_false, not_false_eq_true, false_implies, true_implies, ev_51, ev_36, ev_49, ev_41, ev_79, ft_10_3, fn_10_3, ft_6_2, fn_6_2, ft_10_4, fn_10_4, ev_0, ev_64, ev_37, mz_rl d_Tabulator_faultOfCard_24, mz_rl d_Tabulator_faultOfCard_27, mz_rl d_Tabulator_faultOfCard_29, mz_rl d_Tabulator_faultOfCard_32, mz_rl d_Tabulator_faultOfCard_33, mz_rl d_Tabulator_faultOfCard_36, mz_rl d_Tabulator_faultOfCard_39, mz_rl d_Tabulator_faultOfCard_42, mz_rl d_Tabulator_faultOfCard_43, mz_rl d_Tabulator_faultOfCard_46, mz_rl d_Tabulator_faultOfCard_49, mz_rl d_Tabulator_faultOfCard_52, mz_rl d_Tabulator_faultOfCard_53, mz_rl d_Tabulator_faultOfCard_54, mz_rl d_Tabulator_faultOfCard_55, mz_rl d_Tabulator_faultOfCard_56, mz_rl d_Tabulator_faultOfCard_57, j_Tabulator_faultOfCard_24, j_Tabulator_faultOfCard_29, j_Tabulator_faultOfCard_39, j_Tabulator_faultOfCard_49, nF_10, eq_false htc, eq_false q1, h164, d2, show (true = true) = True from by simp]
        exact two (Or.inr (Or.inl ⟨hls, c2⟩))
      | false =>
        rw [c2] at d2
        refine mz_go [42] 20 ?_
        simp only [mz_r0, mk_lit, mk_fin, mk_cat, mk_fit, mk_nar, mk_cls, mk_ty, mk_isr, List.mem_cons, List.not_mem_nil, or_false, or_true, false_or, true_or, Nat.reduceEqDiff, Nat.reduceAdd, Nat.reduceSub, Nat.reduceLT, Nat.reduceLeDiff, ↓reduceIte, if_true, if_false, List.getElem?_cons_zero, List.getElem?_cons_succ, List.set_cons_zero, List.set_cons_succ, List.length_cons, List.length_nil, mz_s1, mz_s2, mz_cl, true_and, and_true, false_and, and_false, List.append_nil, mk_b0, mk_b1, mk_b2, mk_bn, Value.int.injEq, Option.toList_some, Option.toList_none, List.cons_append, List.nil_append, Classical.not_not, Option.some.injEq, reduceCtorEq, ne_eq, not_true_eq_false, not_false_eq_true, false_implies, true_implies, ev_51, ev_36, ev_49, ev_41, ev_79, ft_10_3, fn_10_3, ft_6_2, fn_6_2, ev_0, ev_64, mz_rl d_Tabulator_faultOfCard_24, mz_rl d_Tabulator_faultOfCard_27, mz_rl d_Tabulator_faultOfCard_29, mz_rl d_Tabulator_faultOfCard_32, mz_rl d_Tabulator_faultOfCard_33, mz_rl d_Tabulator_faultOfCard_36, mz_rl d_Tabulator_faultOfCard_39, mz_rl d_Tabulator_faultOfCard_52, mz_rl d_Tabulator_faultOfCard_53, j_Tabulator_faultOfCard_24, j_Tabulator_faultOfCard_29, j_Tabulator_faultOfCard_39, nF_10, eq_false htc, eq_false q1, h164, d2, show (false = true) = False from by simp]
        exact last (fun _ => c2)
    · have q1 : q4 = 0 := by rw [q0]; exact hls
      refine mz_go [42] 20 ?_
      simp only [mz_r0, mk_lit, mk_fin, mk_cat, mk_fit, mk_nar, mk_cls, mk_ty, mk_isr, List.mem_cons, List.not_mem_nil, or_false, or_true, false_or, true_or, Nat.reduceEqDiff, Nat.reduceAdd, Nat.reduceSub, Nat.reduceLT, Nat.reduceLeDiff, ↓reduceIte, if_true, if_false, List.getElem?_cons_zero, List.getElem?_cons_succ, List.set_cons_zero, List.set_cons_succ, List.length_cons, List.length_nil, mz_s1, mz_s2, mz_cl, true_and, and_true, false_and, and_false, List.append_nil, mk_b0, mk_b1, mk_b2, mk_bn, Value.int.injEq, Option.toList_some, Option.toList_none, List.cons_append, List.nil_append, Classical.not_not, Option.some.injEq, reduceCtorEq, ne_eq, not_true_eq_false, not_false_eq_true, false_implies, true_implies, ev_51, ev_36, ev_49, ev_41, ev_79, ft_10_3, fn_10_3, ft_6_2, fn_6_2, ev_0, ev_64, mz_rl d_Tabulator_faultOfCard_24, mz_rl d_Tabulator_faultOfCard_27, mz_rl d_Tabulator_faultOfCard_29, mz_rl d_Tabulator_faultOfCard_32, mz_rl d_Tabulator_faultOfCard_33, mz_rl d_Tabulator_faultOfCard_36, mz_rl d_Tabulator_faultOfCard_39, mz_rl d_Tabulator_faultOfCard_52, mz_rl d_Tabulator_faultOfCard_53, j_Tabulator_faultOfCard_24, j_Tabulator_faultOfCard_29, j_Tabulator_faultOfCard_39, nF_10, eq_false htc, eq_true q1]
      exact last (fun z => absurd z hls)
def feP (f : mz_H) (n : Nat) (F T L : Nat → Nat) (w : Nat) (u : tT) (v : Option Value) (n' : Nat) (f' : mz_H) : Prop := v = some (.int (nI (feN F T L w u))) ∧ n' = n ∧ Tb f' u.2.1 ∧ TT f' u ∧ FrT f f'
theorem c_Tabulator_faultOfLastTotals (G : mz_G) (n : Nat) (f : mz_H) {b w : Nat} {F T L : Nat → Nat} {u : tT} (hE : f 1000000000001 = mz_d) (hT : Tb f u.2.1) (hX : TT f u) (hB : Bd f b w F T L) (hok : BdOk w F T L) (hb : 126 < b) :
    mz_Ct G mk_P y_Tabulator_faultOfLastTotals b_Tabulator_faultOfLastTotals 2 (some .int) (r_Tabulator_faultOfLastTotals 0 0) [.ref 16, .ref b] n f (feP f n F T L w u) := by
  have htl := tlN_le L 4
  refine mk_Ct 10 false [some (.ref 16), some (.ref b)] (by decide) rfl (by decide) (Nat.le_of_ble_eq_true rfl) rfl ?_
  refine mz_go [3] 20 ?_
  simp only [mz_r0, mk_lit, mk_fin, mk_cat, mk_fit, mk_nar, mk_cls, mk_ty, mk_isr, List.mem_cons, List.not_mem_nil, or_false, or_true, false_or, true_or, Nat.reduceEqDiff, Nat.reduceAdd, Nat.reduceSub, Nat.reduceLT, Nat.reduceLeDiff, ↓reduceIte, if_true, if_false, List.getElem?_cons_zero, List.getElem?_cons_succ, List.set_cons_zero, List.set_cons_succ, List.length_cons, List.length_nil, mz_s1, mz_s2, mz_cl, true_and, and_true, false_and, and_false, List.append_nil, mk_b0, mk_b1, mk_b2, mk_bn, Value.int.injEq, Option.toList_some, Option.toList_none, List.cons_append, List.nil_append, Classical.not_not, Option.some.injEq, reduceCtorEq, ne_eq, not_true_eq_false, not_false_eq_true, false_implies, true_implies, ev_41, ev_0, mz_rl d_Tabulator_faultOfLastTotals_0, mz_rl d_Tabulator_faultOfLastTotals_1, mz_rl d_Tabulator_faultOfLastTotals_2, nF_10]
  refine mz_callV (by simp only [d_Tabulator_faultOfLastTotals_3, Nat.reduceAdd]) g_10_97 rfl (fun _ _ h => h) (c_Tabulator_totalsClash G n f (lv := 4) hE hT hX hB hok hb (by decide)) hT.1 rfl rfl (by decide) (Nat.le_of_ble_eq_true rfl) rfl ?_; rintro v_ n_ f_ ⟨rfl, rfl, hT4, hX4, hF4, hn4⟩
  have hB4 := Bd_T hF4 hB hb
  have h164 := hT4.1
  have done : ∀ r, feN F T L w u = r → feP f n_ F T L w u (some (.int (nI r))) n_ f_ := fun r hr => by
    subst hr; exact ⟨rfl, rfl, hT4, hX4, hF4⟩
  by_cases htc : tcB F T L u.1 w 4 = true
  · refine mz_go [] 20 ?_
    simp only [mz_r0, mk_lit, mk_fin, mk_cat, mk_fit, mk_nar, mk_cls, mk_ty, mk_isr, List.mem_cons, List.not_mem_nil, or_false, or_true, false_or, true_or, Nat.reduceEqDiff, Nat.reduceAdd, Nat.reduceSub, Nat.reduceLT, Nat.reduceLeDiff, ↓reduceIte, if_true, if_false, List.getElem?_cons_zero, List.getElem?_cons_succ, List.set_cons_zero, List.set_cons_succ, List.length_cons, List.length_nil, mz_s1, mz_s2, mz_cl, true_and, and_true, false_and, and_false, List.append_nil, mk_b0, mk_b1, mk_b2, mk_bn, Value.int.injEq, Option.toList_some, Option.toList_none, List.cons_append, List.nil_append, Classical.not_not, Option.some.injEq, reduceCtorEq, ne_eq, not_true_eq_false, not_false_eq_true, false_implies, true_implies, ev_49, ev_0, ev_64, ev_41, ev_79, ft_10_1, fn_10_1, mz_rl d_Tabulator_faultOfLastTotals_6, mz_rl d_Tabulator_faultOfLastTotals_9, mz_rl d_Tabulator_faultOfLastTotals_10, mz_rl d_Tabulator_faultOfLastTotals_11, mz_rl d_Tabulator_faultOfLastTotals_12, mz_rl d_Tabulator_faultOfLastTotals_15, mz_rl d_Tabulator_faultOfLastTotals_16, mz_rl d_Tabulator_faultOfLastTotals_17, j_Tabulator_faultOfLastTotals_6, nF_10, eq_true htc]
    exact done 2 (if_pos htc)
  · have fr : feN F T L w u = if u.2.1 + tlN L 4 ≤ 100 then 0 else 4 := if_neg htc
    refine mz_go [17] 20 ?_
    simp only [mz_r0, mk_lit, mk_fin, mk_cat, mk_fit, mk_nar, mk_cls, mk_ty, mk_isr, List.mem_cons, List.not_mem_nil, or_false, or_true, false_or, true_or, Nat.reduceEqDiff, Nat.reduceAdd, Nat.reduceSub, Nat.reduceLT, Nat.reduceLeDiff, ↓reduceIte, if_true, if_false, List.getElem?_cons_zero, List.getElem?_cons_succ, List.set_cons_zero, List.set_cons_succ, List.length_cons, List.length_nil, mz_s1, mz_s2, mz_cl, true_and, and_true, false_and, and_false, List.append_nil, mk_b0, mk_b1, mk_b2, mk_bn, Value.int.injEq, Option.toList_some, Option.toList_none, List.cons_append, List.nil_append, Classical.not_not, Option.some.injEq, reduceCtorEq, ne_eq, not_true_eq_false, not_false_eq_true, false_implies, true_implies, ev_49, ev_0, ev_64, ev_41, ev_79, ft_10_1, fn_10_1, mz_rl d_Tabulator_faultOfLastTotals_6, mz_rl d_Tabulator_faultOfLastTotals_9, mz_rl d_Tabulator_faultOfLastTotals_10, mz_rl d_Tabulator_faultOfLastTotals_11, mz_rl d_Tabulator_faultOfLastTotals_12, mz_rl d_Tabulator_faultOfLastTotals_15, mz_rl d_Tabulator_faultOfLastTotals_16, j_Tabulator_faultOfLastTotals_6, nF_10, eq_false htc, h164]
    refine mz_callS (by simp only [d_Tabulator_faultOfLastTotals_17, Nat.reduceAdd]) g_10_108 rfl (fun _ _ h => h) (c_Tabulator_totalLines G mk_P _ f_ (lv := 4) hB4 hok (by decide)) (by decide) (Nat.le_of_ble_eq_true rfl) rfl ?_; intro v_ n_ f_ h_; obtain ⟨rfl, hn_, hf_⟩ := h_; replace hn_ := hn_.symm; replace hf_ := hf_.symm; subst hn_; subst hf_
    refine mz_callV (by simp only [d_Tabulator_faultOfLastTotals_20, Nat.reduceAdd]) g_10_112 rfl (fun _ _ h => h) (c_Paper_hasRoomFor G mk_P _ f_ (m := tlN L 4) hT4.2.2.1.1 hT4.2.2.2.1 (show tlN L 4 ≤ 100 by omega)) hT4.2.2.1.1 rfl rfl (by decide) (Nat.le_of_ble_eq_true rfl) rfl ?_; intro v_ n_ f_ h_; obtain ⟨rfl, hn_, hf_⟩ := h_; replace hn_ := hn_.symm; replace hf_ := hf_.symm; subst hn_; subst hf_
    by_cases hr : u.2.1 + tlN L 4 ≤ 100
    · refine mz_go [] 20 ?_
      simp only [mz_r0, mk_lit, mk_fin, mk_cat, mk_fit, mk_nar, mk_cls, mk_ty, mk_isr, List.mem_cons, List.not_mem_nil, or_false, or_true, false_or, true_or, Nat.reduceEqDiff, Nat.reduceAdd, Nat.reduceSub, Nat.reduceLT, Nat.reduceLeDiff, ↓reduceIte, if_true, if_false, List.getElem?_cons_zero, List.getElem?_cons_succ, List.set_cons_zero, List.set_cons_succ, List.length_cons, List.length_nil, mz_s1, mz_s2, mz_cl, true_and, and_true, false_and, and_false, List.append_nil, mk_b0, mk_b1, mk_b2, mk_bn, Value.int.injEq, Option.toList_some, Option.toList_none, List.cons_append, List.nil_append, Classical.not_not, Option.some.injEq, reduceCtorEq, ne_eq, not_true_eq_false, not_false_eq_true, false_implies, true_implies, ev_49, ev_0, ev_61, ev_64, mz_rl d_Tabulator_faultOfLastTotals_23, mz_rl d_Tabulator_faultOfLastTotals_26, mz_rl d_Tabulator_faultOfLastTotals_27, mz_rl d_Tabulator_faultOfLastTotals_30, mz_rl d_Tabulator_faultOfLastTotals_31, j_Tabulator_faultOfLastTotals_23, j_Tabulator_faultOfLastTotals_27, nF_10, eq_true hr]
      exact done 0 (by rw [fr, if_pos hr])
    · refine mz_go [] 20 ?_
      simp only [mz_r0, mk_lit, mk_fin, mk_cat, mk_fit, mk_nar, mk_cls, mk_ty, mk_isr, List.mem_cons, List.not_mem_nil, or_false, or_true, false_or, true_or, Nat.reduceEqDiff, Nat.reduceAdd, Nat.reduceSub, Nat.reduceLT, Nat.reduceLeDiff, ↓reduceIte, if_true, if_false, List.getElem?_cons_zero, List.getElem?_cons_succ, List.set_cons_zero, List.set_cons_succ, List.length_cons, List.length_nil, mz_s1, mz_s2, mz_cl, true_and, and_true, false_and, and_false, List.append_nil, mk_b0, mk_b1, mk_b2, mk_bn, Value.int.injEq, Option.toList_some, Option.toList_none, List.cons_append, List.nil_append, Classical.not_not, Option.some.injEq, reduceCtorEq, ne_eq, not_true_eq_false, not_false_eq_true, false_implies, true_implies, ev_49, ev_0, ev_61, ev_64, mz_rl d_Tabulator_faultOfLastTotals_23, mz_rl d_Tabulator_faultOfLastTotals_26, mz_rl d_Tabulator_faultOfLastTotals_27, mz_rl d_Tabulator_faultOfLastTotals_30, mz_rl d_Tabulator_faultOfLastTotals_31, j_Tabulator_faultOfLastTotals_23, j_Tabulator_faultOfLastTotals_27, nF_10, eq_false hr]
      exact done 4 (by rw [fr, if_neg hr])
/-- what a run leaves behind: fault, card, counters and paper -/
def tbP (f : mz_H) (n : Nat) (R : Nat × Nat × tT) (v : Option Value) (n' : Nat) (f' : mz_H) : Prop := v = some (.int (nI R.2.1)) ∧ n' = n ∧ Tb f' R.2.2.2.1 ∧ TT f' R.2.2 ∧ FrL f f' ∧ f' 4 = lightC R.1 R.2.1
theorem TT_4 {f : mz_H} {u : tT} (h : TT f u) (x : mz_C) : TT (mz_u f 4 x) u := TT_eq h (fun q hq => mz_u_n (by omega))
theorem lcN {k i : Nat} (h : k ≠ 0) : lightC k i = .inr (5, [.int (nI k), .int (nI i)]) := by unfold lightC; rw [if_neg h]
theorem tcB_fe {F T L : Nat → Nat} {w : Nat} {u : tT} (h : feN F T L w u = 0) : tcB F T L u.1 w 4 = false ∧ u.2.1 + tlN L 4 ≤ 100 := by
  unfold feN at h
  cases htc : tcB F T L u.1 w 4 with
  | true => rw [if_pos htc] at h; cases h
  | false =>
    rw [htc, if_neg (by decide)] at h
    refine ⟨rfl, ?_⟩
    by_cases hr : u.2.1 + tlN L 4 ≤ 100
    · exact hr
    · rw [if_neg hr] at h; cases h
theorem tcB_fc {F T L t : Nat → Nat} {w lv : Nat} {u : tT} (h : fcN F T L t w lv u = 0) : tcB F T L u.1 w lv = false ∧ (∀ c, c < 4 → stN L u.1 lv c + enN F T t w c 6 < 1000000) ∧ u.2.1 + tlN L lv + (if lsB T 0 w = true then 1 else 0) ≤ 100 := by
  unfold fcN at h
  by_cases hc : tcB F T L u.1 w lv = true ∨ (lsB T 0 w = true ∧ clB F T t 32 w 24 = true) ∨ clB F T t 64 w 24 = true
  · rw [if_pos hc] at h; cases h
  · rw [if_neg hc] at h
    by_cases ho : ovB F T L u.1 t w lv 4 = true
    · rw [if_pos ho] at h; cases h
    · rw [if_neg ho] at h
      refine ⟨?_, fun c hc4 => ?_, ?_⟩
      · cases htc : tcB F T L u.1 w lv with
        | true => exact absurd (Or.inl htc) hc
        | false => rfl
      · rcases Nat.lt_or_ge (stN L u.1 lv c + enN F T t w c 6) 1000000 with z | z
        · exact z
        · exact absurd ((ovB_iff 4).mpr ⟨c, hc4, z⟩) ho
      · by_cases hr : u.2.1 + tlN L lv + (if lsB T 0 w = true then 1 else 0) ≤ 100
        · exact hr
        · rw [if_neg hr] at h; cases h
theorem c_Tabulator_finish (G : mz_G) (n : Nat) (f0 f : mz_H) {b w sz : Nat} {F T L : Nat → Nat} {u : tT} {u0 w0 : Int32} (h0 : FrT f0 f) (hE : f 1000000000001 = mz_d) (hT : Tb f u.2.1) (hX : TT f u) (hB : Bd f b w F T L) (hok : BdOk w F T L) (hb : 126 < b) (h4 : f 4 = .inr (5, [.int u0, .int w0])) (hs : sz < 2 ^ 31) :
    mz_Ct G mk_P y_Tabulator_finish b_Tabulator_finish 5 (some .int) (r_Tabulator_finish 0 0) [.ref 16, .ref b, .int (nI sz), .ref 4] n f (tbP f0 n (tbE F T L w sz u)) := by
  refine mk_Ct 10 false [some (.ref 16), some (.ref b), some (.int (nI sz)), some (.ref 4), none] (by decide) rfl (by decide) (Nat.le_of_ble_eq_true rfl) rfl ?_
  have e0 : (nI sz ≤ 0) = (sz = 0) := by
    show (nI sz ≤ nI 0) = _
    rw [nI_leI hs (by decide)]; exact propext ⟨fun h => by omega, fun h => by omega⟩
  by_cases hz : sz = 0
  · have eE : tbE F T L w sz u = (0, 0, u) := if_pos hz
    rw [eE]
    refine mz_go [32] 20 ?_
    simp only [mz_r0, mk_lit, mk_fin, mk_cat, mk_fit, mk_nar, mk_cls, mk_ty, mk_isr, List.mem_cons, List.not_mem_nil, or_false, or_true, false_or, true_or, Nat.reduceEqDiff, Nat.reduceAdd, Nat.reduceSub, Nat.reduceLT, Nat.reduceLeDiff, ↓reduceIte, if_true, if_false, List.getElem?_cons_zero, List.getElem?_cons_succ, List.set_cons_zero, List.set_cons_succ, List.length_cons, List.length_nil, mz_s1, mz_s2, mz_cl, true_and, and_true, false_and, and_false, List.append_nil, mk_b0, mk_b1, mk_b2, mk_bn, Value.int.injEq, Option.toList_some, Option.toList_none, List.cons_append, List.nil_append, Classical.not_not, Option.some.injEq, reduceCtorEq, ne_eq, not_true_eq_false, not_false_eq_true, false_implies, true_implies, ev_37, ev_59, ev_41, mz_rl d_Tabulator_finish_0, mz_rl d_Tabulator_finish_1, mz_rl d_Tabulator_finish_4, mz_rl d_Tabulator_finish_5, mz_rl d_Tabulator_finish_6, mz_rl d_Tabulator_finish_30, mz_rl d_Tabulator_finish_31, j_Tabulator_finish_1, nF_10, e0, eq_true hz]
    refine mz_callV (by simp only [d_Tabulator_finish_32, Nat.reduceAdd]) g_10_89 rfl (fun _ _ h => h) (c_FaultLight_allDone G mk_P n f h4) h4 rfl rfl (by decide) (Nat.le_of_ble_eq_true rfl) rfl ?_; intro v_ n_ f_ h_; obtain ⟨rfl, hn_, hf_⟩ := h_; replace hn_ := hn_.symm; replace hf_ := hf_.symm; subst hn_; subst hf_
    refine mz_go [] 20 ?_
    simp only [mz_r0, mk_lit, mk_fin, mk_cat, mk_fit, mk_nar, mk_cls, mk_ty, mk_isr, List.mem_cons, List.not_mem_nil, or_false, or_true, false_or, true_or, Nat.reduceEqDiff, Nat.reduceAdd, Nat.reduceSub, Nat.reduceLT, Nat.reduceLeDiff, ↓reduceIte, if_true, if_false, List.getElem?_cons_zero, List.getElem?_cons_succ, List.set_cons_zero, List.set_cons_succ, List.length_cons, List.length_nil, mz_s1, mz_s2, mz_cl, true_and, and_true, false_and, and_false, List.append_nil, mk_b0, mk_b1, mk_b2, mk_bn, Value.int.injEq, Option.toList_some, Option.toList_none, List.cons_append, List.nil_append, Classical.not_not, Option.some.injEq, reduceCtorEq, ne_eq, not_true_eq_false, not_false_eq_true, false_implies, true_implies, ev_64, mz_rl d_Tabulator_finish_35, nF_10]
    exact ⟨by rw [hz], rfl, Tb_4 hT _, TT_4 hX _, FrL_4 h0 _, mz_u_s _ _ _⟩
  · refine mz_go [6] 20 ?_
    simp only [mz_r0, mk_lit, mk_fin, mk_cat, mk_fit, mk_nar, mk_cls, mk_ty, mk_isr, List.mem_cons, List.not_mem_nil, or_false, or_true, false_or, true_or, Nat.reduceEqDiff, Nat.reduceAdd, Nat.reduceSub, Nat.reduceLT, Nat.reduceLeDiff, ↓reduceIte, if_true, if_false, List.getElem?_cons_zero, List.getElem?_cons_succ, List.set_cons_zero, List.set_cons_succ, List.length_cons, List.length_nil, mz_s1, mz_s2, mz_cl, true_and, and_true, false_and, and_false, List.append_nil, mk_b0, mk_b1, mk_b2, mk_bn, Value.int.injEq, Option.toList_some, Option.toList_none, List.cons_append, List.nil_append, Classical.not_not, Option.some.injEq, reduceCtorEq, ne_eq, not_true_eq_false, not_false_eq_true, false_implies, true_implies, ev_37, ev_59, ev_41, mz_rl d_Tabulator_finish_0, mz_rl d_Tabulator_finish_1, mz_rl d_Tabulator_finish_4, mz_rl d_Tabulator_finish_5, mz_rl d_Tabulator_finish_30, mz_rl d_Tabulator_finish_31, mz_rl d_Tabulator_finish_32, j_Tabulator_finish_1, nF_10, e0, eq_false hz]
    refine mz_callV (by simp only [d_Tabulator_finish_6, Nat.reduceAdd]) g_10_85 rfl (fun _ _ h => h) (c_Tabulator_faultOfLastTotals G n f hE hT hX hB hok hb) hT.1 rfl rfl (by decide) (Nat.le_of_ble_eq_true rfl) rfl ?_; rintro v_ n_ f_ ⟨rfl, rfl, hT2, hX2, hF2⟩
    have k4 := (T4 hF2).trans h4
    have hF2' := FrT_tr h0 hF2
    have hB2 := Bd_T hF2 hB hb
    have fl : feN F T L w u < 2 ^ 31 := by unfold feN; split; decide; split <;> decide
    have e1 : (nI (feN F T L w u) = 0) = (feN F T L w u = 0) := by
      show (nI (feN F T L w u) = nI 0) = _
      exact propext (nI_eq fl (by decide))
    by_cases h : feN F T L w u = 0
    · have eE : tbE F T L w sz u = (0, sz, toF F T L w 4 u) := by unfold tbE; rw [if_neg hz, if_pos h]
      rw [eE]
      obtain ⟨z1, z2⟩ := tcB_fe h
      refine mz_go [27] 20 ?_
      simp only [mz_r0, mk_lit, mk_fin, mk_cat, mk_fit, mk_nar, mk_cls, mk_ty, mk_isr, List.mem_cons, List.not_mem_nil, or_false, or_true, false_or, true_or, Nat.reduceEqDiff, Nat.reduceAdd, Nat.reduceSub, Nat.reduceLT, Nat.reduceLeDiff, ↓reduceIte, if_true, if_false, List.getElem?_cons_zero, List.getElem?_cons_succ, List.set_cons_zero, List.set_cons_succ, List.length_cons, List.length_nil, mz_s1, mz_s2, mz_cl, true_and, and_true, false_and, and_false, List.append_nil, mk_b0, mk_b1, mk_b2, mk_bn, Value.int.injEq, Option.toList_some, Option.toList_none, List.cons_append, List.nil_append, Classical.not_not, Option.some.injEq, reduceCtorEq, ne_eq, not_true_eq_false, not_false_eq_true, false_implies, true_implies, ev_42, ev_36, ev_49, ev_41, ev_37, ev_0, mz_rl d_Tabulator_finish_9, mz_rl d_Tabulator_finish_11, mz_rl d_Tabulator_finish_13, mz_rl d_Tabulator_finish_16, mz_rl d_Tabulator_finish_17, mz_rl d_Tabulator_finish_19, mz_rl d_Tabulator_finish_20, mz_rl d_Tabulator_finish_24, mz_rl d_Tabulator_finish_25, mz_rl d_Tabulator_finish_26, j_Tabulator_finish_13, nF_10, e1, eq_true h]
      refine mz_callV (by simp only [d_Tabulator_finish_27, Nat.reduceAdd]) g_10_73 rfl (fun _ _ h => h) (c_Tabulator_doTotals G _ f_ (lv := 4) (E_T hF2 hE) hT2 hX2 hB2 hok hb (by decide) z1 z2) hT2.1 rfl rfl (by decide) (Nat.le_of_ble_eq_true rfl) rfl ?_; rintro v_ n_ f_ ⟨rfl, rfl, hT3, hX3, hF3, _⟩
      have k5 := (T4 hF3).trans k4
      refine mz_go [32] 20 ?_
      simp only [mz_r0, mk_lit, mk_fin, mk_cat, mk_fit, mk_nar, mk_cls, mk_ty, mk_isr, List.mem_cons, List.not_mem_nil, or_false, or_true, false_or, true_or, Nat.reduceEqDiff, Nat.reduceAdd, Nat.reduceSub, Nat.reduceLT, Nat.reduceLeDiff, ↓reduceIte, if_true, if_false, List.getElem?_cons_zero, List.getElem?_cons_succ, List.set_cons_zero, List.set_cons_succ, List.length_cons, List.length_nil, mz_s1, mz_s2, mz_cl, true_and, and_true, false_and, and_false, List.append_nil, mk_b0, mk_b1, mk_b2, mk_bn, Value.int.injEq, Option.toList_some, Option.toList_none, List.cons_append, List.nil_append, Classical.not_not, Option.some.injEq, reduceCtorEq, ne_eq, not_true_eq_false, not_false_eq_true, false_implies, true_implies, ev_41, ev_37, mz_rl d_Tabulator_finish_30, mz_rl d_Tabulator_finish_31, nF_10]
      refine mz_callV (by simp only [d_Tabulator_finish_32, Nat.reduceAdd]) g_10_89 rfl (fun _ _ h => h) (c_FaultLight_allDone G mk_P _ f_ k5) k5 rfl rfl (by decide) (Nat.le_of_ble_eq_true rfl) rfl ?_; intro v_ n_ f_ h_; obtain ⟨rfl, hn_, hf_⟩ := h_; replace hn_ := hn_.symm; replace hf_ := hf_.symm; subst hn_; subst hf_
      refine mz_go [] 20 ?_
      simp only [mz_r0, mk_lit, mk_fin, mk_cat, mk_fit, mk_nar, mk_cls, mk_ty, mk_isr, List.mem_cons, List.not_mem_nil, or_false, or_true, false_or, true_or, Nat.reduceEqDiff, Nat.reduceAdd, Nat.reduceSub, Nat.reduceLT, Nat.reduceLeDiff, ↓reduceIte, if_true, if_false, List.getElem?_cons_zero, List.getElem?_cons_succ, List.set_cons_zero, List.set_cons_succ, List.length_cons, List.length_nil, mz_s1, mz_s2, mz_cl, true_and, and_true, false_and, and_false, List.append_nil, mk_b0, mk_b1, mk_b2, mk_bn, Value.int.injEq, Option.toList_some, Option.toList_none, List.cons_append, List.nil_append, Classical.not_not, Option.some.injEq, reduceCtorEq, ne_eq, not_true_eq_false, not_false_eq_true, false_implies, true_implies, ev_64, mz_rl d_Tabulator_finish_35, nF_10]
      exact ⟨rfl, rfl, Tb_4 hT3 _, TT_4 hX3 _, FrL_4 (FrT_tr hF2' hF3) _, mz_u_s _ _ _⟩
    · have eE : tbE F T L w sz u = (feN F T L w u, sz, u) := by unfold tbE; rw [if_neg hz, if_neg h]
      rw [eE]
      refine mz_go [20] 20 ?_
      simp only [mz_r0, mk_lit, mk_fin, mk_cat, mk_fit, mk_nar, mk_cls, mk_ty, mk_isr, List.mem_cons, List.not_mem_nil, or_false, or_true, false_or, true_or, Nat.reduceEqDiff, Nat.reduceAdd, Nat.reduceSub, Nat.reduceLT, Nat.reduceLeDiff, ↓reduceIte, if_true, if_false, List.getElem?_cons_zero, List.getElem?_cons_succ, List.set_cons_zero, List.set_cons_succ, List.length_cons, List.length_nil, mz_s1, mz_s2, mz_cl, true_and, and_true, false_and, and_false, List.append_nil, mk_b0, mk_b1, mk_b2, mk_bn, Value.int.injEq, Option.toList_some, Option.toList_none, List.cons_append, List.nil_append, Classical.not_not, Option.some.injEq, reduceCtorEq, ne_eq, not_true_eq_false, not_false_eq_true, false_implies, true_implies, ev_42, ev_36, ev_49, ev_41, ev_37, ev_0, mz_rl d_Tabulator_finish_9, mz_rl d_Tabulator_finish_11, mz_rl d_Tabulator_finish_13, mz_rl d_Tabulator_finish_16, mz_rl d_Tabulator_finish_17, mz_rl d_Tabulator_finish_19, mz_rl d_Tabulator_finish_24, mz_rl d_Tabulator_finish_25, mz_rl d_Tabulator_finish_26, mz_rl d_Tabulator_finish_27, j_Tabulator_finish_13, nF_10, e1, eq_false h]
      refine mz_callV (by simp only [d_Tabulator_finish_20, Nat.reduceAdd]) g_10_67 rfl (fun _ _ h => h) (c_FaultLight_stopAt G mk_P _ f_ k4) k4 rfl rfl (by decide) (Nat.le_of_ble_eq_true rfl) rfl ?_; intro v_ n_ f_ h_; obtain ⟨rfl, hn_, hf_⟩ := h_; replace hn_ := hn_.symm; replace hf_ := hf_.symm; subst hn_; subst hf_
      refine mz_go [] 20 ?_
      simp only [mz_r0, mk_lit, mk_fin, mk_cat, mk_fit, mk_nar, mk_cls, mk_ty, mk_isr, List.mem_cons, List.not_mem_nil, or_false, or_true, false_or, true_or, Nat.reduceEqDiff, Nat.reduceAdd, Nat.reduceSub, Nat.reduceLT, Nat.reduceLeDiff, ↓reduceIte, if_true, if_false, List.getElem?_cons_zero, List.getElem?_cons_succ, List.set_cons_zero, List.set_cons_succ, List.length_cons, List.length_nil, mz_s1, mz_s2, mz_cl, true_and, and_true, false_and, and_false, List.append_nil, mk_b0, mk_b1, mk_b2, mk_bn, Value.int.injEq, Option.toList_some, Option.toList_none, List.cons_append, List.nil_append, Classical.not_not, Option.some.injEq, reduceCtorEq, ne_eq, not_true_eq_false, not_false_eq_true, false_implies, true_implies, ev_64, mz_rl d_Tabulator_finish_23, nF_10]
      exact ⟨rfl, rfl, Tb_4 hT2 _, TT_4 hX2 _, FrL_4 hF2' _, by rw [mz_u_s, lcN h]⟩
theorem if_lt (p q r : Prop) [Decidable p] [Decidable q] [Decidable r] : (if p then (2 : Nat) else if q then 3 else if r then 0 else 4) < 2 ^ 31 := by
  split
  · decide
  · split
    · decide
    · split <;> decide
theorem fcN_lt {F T L t : Nat → Nat} {w bk : Nat} {u : tT} : fcN F T L t w bk u < 2 ^ 31 := if_lt _ _ _
theorem l_Tabulator_goThrough (G : mz_G) (n : Nat) (f : mz_H) {b w d a sz K : Nat} {F T L : Nat → Nat} {u0 w0 : Int32} {g : Nat → Option Nat} {c : Nat → Nat} {s : Nat → Nat → Nat} (hE : f 1000000000001 = mz_d) (hB : Bd f b w F T L) (hok : BdOk w F T L) (hb : 126 < b) (h4 : f 4 = .inr (5, [.int u0, .int w0])) (hd1 : f d = .inr (4, [.ref a, .int (nI sz)])) (hd2 : f a = aQ 6 200 g) (hd : 125 < d) (ha : 125 < a) (hs : sz ≤ 200) (hC : Cd f K s) (hP : Ps g sz c K) (R : Nat × Nat × tT) :
    ∀ m i u H w6 w7 w8, i + m = sz → (∀ v, w6 = some v → v.category = 1) → (∀ v, w7 = some v → v.category = 1) → (∀ v, w8 = some v → v.category = 1) → tbG F T L w c s m i u = R → Tb H u.2.1 → TT H u → FrT f H → mz_X G mk_P 10 false b_Tabulator_goThrough 9 (some .int) (r_Tabulator_goThrough 0 0) (tbP f n R) (fun _ _ _ => False) 17 [some (.ref 16), some (.ref b), some (.ref d), some (.ref 4), some (.int (mk_b (lsB T 0 w = true))), some (.int (nI i)), w6, w7, w8] [] 0 0 n H := by
  intro m
  induction m with
  | zero =>
    intro i u H w6 w7 w8 hi h6 h7 h8 hR hT hX hF
    have : i = sz := by omega
    subst this
    subst hR
    have q1 : H d = .inr (4, [.ref a, .int (nI i)]) := (hF d (by omega) (by omega) (by omega)).trans hd1
    refine mz_go [112] 20 ?_
    simp only [mz_r0, mk_lit, mk_fin, mk_cat, mk_fit, mk_nar, mk_cls, mk_ty, mk_isr, List.mem_cons, List.not_mem_nil, or_false, or_true, false_or, true_or, Nat.reduceEqDiff, Nat.reduceAdd, Nat.reduceSub, Nat.reduceLT, Nat.reduceLeDiff, ↓reduceIte, if_true, if_false, List.getElem?_cons_zero, List.getElem?_cons_succ, List.set_cons_zero, List.set_cons_succ, List.length_cons, List.length_nil, mz_s1, mz_s2, mz_cl, true_and, and_true, false_and, and_false, List.append_nil, mk_b0, mk_b1, mk_b2, mk_bn, Value.int.injEq, Option.toList_some, Option.toList_none, List.cons_append, List.nil_append, Classical.not_not, Option.some.injEq, reduceCtorEq, ne_eq, not_true_eq_false, not_false_eq_true, false_implies, true_implies, ev_36, ev_41, ev_79, ft_4_1, fn_4_1, ev_56, mz_rl d_Tabulator_goThrough_17, mz_rl d_Tabulator_goThrough_19, mz_rl d_Tabulator_goThrough_20, mz_rl d_Tabulator_goThrough_23, mz_rl d_Tabulator_goThrough_26, mz_rl d_Tabulator_goThrough_27, mz_rl d_Tabulator_goThrough_29, mz_rl d_Tabulator_goThrough_105, mz_rl d_Tabulator_goThrough_106, mz_rl d_Tabulator_goThrough_107, mz_rl d_Tabulator_goThrough_108, mz_rl d_Tabulator_goThrough_111, j_Tabulator_goThrough_23, nF_10, q1, nI_leI (show i < 2 ^ 31 by omega) (show i < 2 ^ 31 by omega), Nat.le_refl]
    refine mz_callV (by simp only [d_Tabulator_goThrough_112, Nat.reduceAdd]) g_10_81 rfl (fun _ _ h => h) (c_Tabulator_finish G n f H hF (E_T hF hE) hT hX (Bd_T hF hB hb) hok hb ((T4 hF).trans h4) (show i < 2 ^ 31 by omega)) hT.1 rfl rfl (by decide) (Nat.le_of_ble_eq_true rfl) rfl ?_; rintro v_ n_ f_ ⟨rfl, rfl, p1, p2, p3, p4⟩
    refine mz_go [] 20 ?_
    simp only [mz_r0, mk_lit, mk_fin, mk_cat, mk_fit, mk_nar, mk_cls, mk_ty, mk_isr, List.mem_cons, List.not_mem_nil, or_false, or_true, false_or, true_or, Nat.reduceEqDiff, Nat.reduceAdd, Nat.reduceSub, Nat.reduceLT, Nat.reduceLeDiff, ↓reduceIte, if_true, if_false, List.getElem?_cons_zero, List.getElem?_cons_succ, List.set_cons_zero, List.set_cons_succ, List.length_cons, List.length_nil, mz_s1, mz_s2, mz_cl, true_and, and_true, false_and, and_false, List.append_nil, mk_b0, mk_b1, mk_b2, mk_bn, Value.int.injEq, Option.toList_some, Option.toList_none, List.cons_append, List.nil_append, Classical.not_not, Option.some.injEq, reduceCtorEq, ne_eq, not_true_eq_false, not_false_eq_true, false_implies, true_implies, ev_64, mz_rl d_Tabulator_goThrough_115, nF_10]
    exact ⟨rfl, rfl, p1, p2, p3, p4⟩
  | succ m ih =>
    intro i u H w6 w7 w8 hi h6 h7 h8 hR hT hX hF
    have q1 : H d = .inr (4, [.ref a, .int (nI sz)]) := (hF d (by omega) (by omega) (by omega)).trans hd1
    have q2 : H a = aQ 6 200 g := (hF a (by omega) (by omega) (by omega)).trans hd2
    have hBH := Bd_T hF hB hb
    have hEH := E_T hF hE
    have hCH := Cd_T hF hC
    have p1 := hP i (by omega)
    have hb3 := bkN_le (F := F) (T := T) (w := w) (c := c) (s := s) (i := i)
    unfold tbG at hR
    have rest : mz_X G mk_P 10 false b_Tabulator_goThrough 9 (some .int) (r_Tabulator_goThrough 0 0) (tbP f n R) (fun _ _ _ => False) 59 [some (.ref 16), some (.ref b), some (.ref d), some (.ref 4), some (.int (mk_b (lsB T 0 w = true))), some (.int (nI i)), some (.ref (172 + 2 * c i)), some (.int (nI (bkN F T w c s i))), w8] [] 0 0 n H := by
      generalize bkN F T w c s i = lv at hb3 hR ⊢
      refine mz_go [67] 20 ?_
      simp only [mz_r0, mk_lit, mk_fin, mk_cat, mk_fit, mk_nar, mk_cls, mk_ty, mk_isr, List.mem_cons, List.not_mem_nil, or_false, or_true, false_or, true_or, Nat.reduceEqDiff, Nat.reduceAdd, Nat.reduceSub, Nat.reduceLT, Nat.reduceLeDiff, ↓reduceIte, if_true, if_false, List.getElem?_cons_zero, List.getElem?_cons_succ, List.set_cons_zero, List.set_cons_succ, List.length_cons, List.length_nil, mz_s1, mz_s2, mz_cl, true_and, and_true, false_and, and_false, List.append_nil, mk_b0, mk_b1, mk_b2, mk_bn, Value.int.injEq, Option.toList_some, Option.toList_none, List.cons_append, List.nil_append, Classical.not_not, Option.some.injEq, reduceCtorEq, ne_eq, not_true_eq_false, not_false_eq_true, false_implies, true_implies, ev_41, ev_40, ev_36, mz_rl d_Tabulator_goThrough_59, mz_rl d_Tabulator_goThrough_60, mz_rl d_Tabulator_goThrough_61, mz_rl d_Tabulator_goThrough_63, mz_rl d_Tabulator_goThrough_65, nF_10]
      refine mz_callV (by simp only [d_Tabulator_goThrough_67, Nat.reduceAdd]) g_10_63 rfl (fun _ _ h => h) (c_Tabulator_faultOfCard G n H hEH hT hX hBH hok hb (show lv ≤ 4 by omega) hCH p1.2) hT.1 rfl rfl (by decide) (Nat.le_of_ble_eq_true rfl) rfl ?_; rintro v_ n_ f_ ⟨rfl, rfl, hT2, hX2, hF2, hr⟩
      have hF2' := FrT_tr hF hF2
      have k5 := (T4 hF2').trans h4
      have fl : fcN F T L (s (c i)) w lv u < 2 ^ 31 := fcN_lt
      have e1 : (nI (fcN F T L (s (c i)) w lv u) = 0) = (fcN F T L (s (c i)) w lv u = 0) := by
        show (nI (fcN F T L (s (c i)) w lv u) = nI 0) = _
        exact propext (nI_eq fl (by decide))
      by_cases h : fcN F T L (s (c i)) w lv u = 0
      · rw [if_pos h] at hR
        obtain ⟨hen, hln⟩ := hr h
        obtain ⟨z1, z2, z3⟩ := tcB_fc h
        refine mz_go [90] 20 ?_
        simp only [mz_r0, mk_lit, mk_fin, mk_cat, mk_fit, mk_nar, mk_cls, mk_ty, mk_isr, List.mem_cons, List.not_mem_nil, or_false, or_true, false_or, true_or, Nat.reduceEqDiff, Nat.reduceAdd, Nat.reduceSub, Nat.reduceLT, Nat.reduceLeDiff, ↓reduceIte, if_true, if_false, List.getElem?_cons_zero, List.getElem?_cons_succ, List.set_cons_zero, List.set_cons_succ, List.length_cons, List.length_nil, mz_s1, mz_s2, mz_cl, true_and, and_true, false_and, and_false, List.append_nil, mk_b0, mk_b1, mk_b2, mk_bn, Value.int.injEq, Option.toList_some, Option.toList_none, List.cons_append, List.nil_append, Classical.not_not, Option.some.injEq, reduceCtorEq, ne_eq, not_true_eq_false, not_false_eq_true, false_implies, true_implies, ev_42, ev_36, ev_49, ev_41, mz_rl d_Tabulator_goThrough_70, mz_rl d_Tabulator_goThrough_72, mz_rl d_Tabulator_goThrough_74, mz_rl d_Tabulator_goThrough_77, mz_rl d_Tabulator_goThrough_78, mz_rl d_Tabulator_goThrough_80, mz_rl d_Tabulator_goThrough_82, mz_rl d_Tabulator_goThrough_86, mz_rl d_Tabulator_goThrough_87, mz_rl d_Tabulator_goThrough_88, j_Tabulator_goThrough_74, nF_10, e1, eq_true h]
        refine mz_callV (by simp only [d_Tabulator_goThrough_90, Nat.reduceAdd]) g_10_73 rfl (fun _ _ h => h) (c_Tabulator_doTotals G _ f_ (E_T hF2' hE) hT2 hX2 (Bd_T hF2' hB hb) hok hb (show lv ≤ 4 by omega) z1 (show u.2.1 + tlN L lv ≤ 100 by omega)) hT2.1 rfl rfl (by decide) (Nat.le_of_ble_eq_true rfl) rfl ?_; rintro v_ n_ f_ ⟨rfl, rfl, hT3, hX3, hF3, hn3⟩
        have hF3' := FrT_tr hF2' hF3
        refine mz_go [96] 20 ?_
        simp only [mz_r0, mk_lit, mk_fin, mk_cat, mk_fit, mk_nar, mk_cls, mk_ty, mk_isr, List.mem_cons, List.not_mem_nil, or_false, or_true, false_or, true_or, Nat.reduceEqDiff, Nat.reduceAdd, Nat.reduceSub, Nat.reduceLT, Nat.reduceLeDiff, ↓reduceIte, if_true, if_false, List.getElem?_cons_zero, List.getElem?_cons_succ, List.set_cons_zero, List.set_cons_succ, List.length_cons, List.length_nil, mz_s1, mz_s2, mz_cl, true_and, and_true, false_and, and_false, List.append_nil, mk_b0, mk_b1, mk_b2, mk_bn, Value.int.injEq, Option.toList_some, Option.toList_none, List.cons_append, List.nil_append, Classical.not_not, Option.some.injEq, reduceCtorEq, ne_eq, not_true_eq_false, not_false_eq_true, false_implies, true_implies, ev_41, ev_36, mz_rl d_Tabulator_goThrough_93, mz_rl d_Tabulator_goThrough_94, nF_10]
        refine mz_callV (by simp only [d_Tabulator_goThrough_96, Nat.reduceAdd]) g_10_77 rfl (fun _ _ h => h) (c_Tabulator_doCard G _ f_ (lsB T 0 w) (E_T hF3' hE) hT3 hX3 (En_o hen (hn3 _ (by decide))) (fun z => Ln_o (hln z) (hn3 _ (by decide))) (fun c' hc' => by rw [toF_cn hc']; exact z2 c' hc') (by rw [toF_ln]; exact z3)) hT3.1 rfl rfl (by decide) (Nat.le_of_ble_eq_true rfl) rfl ?_; rintro v_ n_ f_ ⟨rfl, rfl, hT4, hX4, hF4⟩
        refine mz_go [17] 20 ?_
        simp only [mz_r0, mk_lit, mk_fin, mk_cat, mk_fit, mk_nar, mk_cls, mk_ty, mk_isr, List.mem_cons, List.not_mem_nil, or_false, or_true, false_or, true_or, Nat.reduceEqDiff, Nat.reduceAdd, Nat.reduceSub, Nat.reduceLT, Nat.reduceLeDiff, ↓reduceIte, if_true, if_false, List.getElem?_cons_zero, List.getElem?_cons_succ, List.set_cons_zero, List.set_cons_succ, List.length_cons, List.length_nil, mz_s1, mz_s2, mz_cl, true_and, and_true, false_and, and_false, List.append_nil, mk_b0, mk_b1, mk_b2, mk_bn, Value.int.injEq, Option.toList_some, Option.toList_none, List.cons_append, List.nil_append, Classical.not_not, Option.some.injEq, reduceCtorEq, ne_eq, not_true_eq_false, not_false_eq_true, false_implies, true_implies, ev_48, ev_61, mz_rl d_Tabulator_goThrough_99, mz_rl d_Tabulator_goThrough_102, j_Tabulator_goThrough_102, nF_10, nI_add]
        exact ih (i + 1) _ _ _ _ _ (by omega) (fun v hv => by cases hv; rfl) (fun v hv => by cases hv; rfl) (fun v hv => by cases hv; rfl) hR hT4 hX4 (FrT_tr hF3' hF4)
      · rw [if_neg h] at hR
        subst hR
        refine mz_go [82] 20 ?_
        simp only [mz_r0, mk_lit, mk_fin, mk_cat, mk_fit, mk_nar, mk_cls, mk_ty, mk_isr, List.mem_cons, List.not_mem_nil, or_false, or_true, false_or, true_or, Nat.reduceEqDiff, Nat.reduceAdd, Nat.reduceSub, Nat.reduceLT, Nat.reduceLeDiff, ↓reduceIte, if_true, if_false, List.getElem?_cons_zero, List.getElem?_cons_succ, List.set_cons_zero, List.set_cons_succ, List.length_cons, List.length_nil, mz_s1, mz_s2, mz_cl, true_and, and_true, false_and, and_false, List.append_nil, mk_b0, mk_b1, mk_b2, mk_bn, Value.int.injEq, Option.toList_some, Option.toList_none, List.cons_append, List.nil_append, Classical.not_not, Option.some.injEq, reduceCtorEq, ne_eq, not_true_eq_false, not_false_eq_true, false_implies, true_implies, ev_42, ev_36, ev_49, ev_41, mz_rl d_Tabulator_goThrough_70, mz_rl d_Tabulator_goThrough_72, mz_rl d_Tabulator_goThrough_74, mz_rl d_Tabulator_goThrough_77, mz_rl d_Tabulator_goThrough_78, mz_rl d_Tabulator_goThrough_80, mz_rl d_Tabulator_goThrough_86, mz_rl d_Tabulator_goThrough_87, mz_rl d_Tabulator_goThrough_88, mz_rl d_Tabulator_goThrough_90, j_Tabulator_goThrough_74, nF_10, e1, eq_false h]
        refine mz_callV (by simp only [d_Tabulator_goThrough_82, Nat.reduceAdd]) g_10_67 rfl (fun _ _ h => h) (c_FaultLight_stopAt G mk_P _ f_ k5) k5 rfl rfl (by decide) (Nat.le_of_ble_eq_true rfl) rfl ?_; intro v_ n_ f_ h_; obtain ⟨rfl, hn_, hf_⟩ := h_; replace hn_ := hn_.symm; replace hf_ := hf_.symm; subst hn_; subst hf_
        refine mz_go [] 20 ?_
        simp only [mz_r0, mk_lit, mk_fin, mk_cat, mk_fit, mk_nar, mk_cls, mk_ty, mk_isr, List.mem_cons, List.not_mem_nil, or_false, or_true, false_or, true_or, Nat.reduceEqDiff, Nat.reduceAdd, Nat.reduceSub, Nat.reduceLT, Nat.reduceLeDiff, ↓reduceIte, if_true, if_false, List.getElem?_cons_zero, List.getElem?_cons_succ, List.set_cons_zero, List.set_cons_succ, List.length_cons, List.length_nil, mz_s1, mz_s2, mz_cl, true_and, and_true, false_and, and_false, List.append_nil, mk_b0, mk_b1, mk_b2, mk_bn, Value.int.injEq, Option.toList_some, Option.toList_none, List.cons_append, List.nil_append, Classical.not_not, Option.some.injEq, reduceCtorEq, ne_eq, not_true_eq_false, not_false_eq_true, false_implies, true_implies, ev_64, mz_rl d_Tabulator_goThrough_85, nF_10]
        exact ⟨rfl, rfl, Tb_4 hT2 _, TT_4 hX2 _, FrL_4 hF2' _, by rw [mz_u_s, lcN h]⟩
    by_cases hi0 : i = 0
    · subst hi0
      refine mz_go [29] 20 ?_
      simp only [mz_r0, mk_lit, mk_fin, mk_cat, mk_fit, mk_nar, mk_cls, mk_ty, mk_isr, List.mem_cons, List.not_mem_nil, or_false, or_true, false_or, true_or, Nat.reduceEqDiff, Nat.reduceAdd, Nat.reduceSub, Nat.reduceLT, Nat.reduceLeDiff, ↓reduceIte, if_true, if_false, List.getElem?_cons_zero, List.getElem?_cons_succ, List.set_cons_zero, List.set_cons_succ, List.length_cons, List.length_nil, mz_s1, mz_s2, mz_cl, true_and, and_true, false_and, and_false, List.append_nil, mk_b0, mk_b1, mk_b2, mk_bn, Value.int.injEq, Option.toList_some, Option.toList_none, List.cons_append, List.nil_append, Classical.not_not, Option.some.injEq, reduceCtorEq, ne_eq, not_true_eq_false, not_false_eq_true, false_implies, true_implies, ev_36, ev_41, ev_79, ft_4_1, fn_4_1, ev_56, mz_rl d_Tabulator_goThrough_17, mz_rl d_Tabulator_goThrough_19, mz_rl d_Tabulator_goThrough_20, mz_rl d_Tabulator_goThrough_23, mz_rl d_Tabulator_goThrough_26, mz_rl d_Tabulator_goThrough_27, mz_rl d_Tabulator_goThrough_105, mz_rl d_Tabulator_goThrough_106, mz_rl d_Tabulator_goThrough_107, mz_rl d_Tabulator_goThrough_108, mz_rl d_Tabulator_goThrough_111, mz_rl d_Tabulator_goThrough_112, j_Tabulator_goThrough_23, nF_10, q1, nI_leI (show sz < 2 ^ 31 by omega) (show 0 < 2 ^ 31 by decide), show ¬ sz ≤ 0 by omega]
      refine mz_callV (by simp only [d_Tabulator_goThrough_29, Nat.reduceAdd]) g_10_55 rfl (fun _ _ h => h) (c_Deck_at G mk_P n H (k := 0) q1 q2 (by decide) p1.1) q1 rfl rfl (by decide) (Nat.le_of_ble_eq_true rfl) rfl ?_; intro v_ n_ f_ h_; obtain ⟨rfl, hn_, hf_⟩ := h_; replace hn_ := hn_.symm; replace hf_ := hf_.symm; subst hn_; subst hf_
      refine mz_go [59] 40 ?_
      simp only [mz_r0, mk_lit, mk_fin, mk_cat, mk_fit, mk_nar, mk_cls, mk_ty, mk_isr, List.mem_cons, List.not_mem_nil, or_false, or_true, false_or, true_or, Nat.reduceEqDiff, Nat.reduceAdd, Nat.reduceSub, Nat.reduceLT, Nat.reduceLeDiff, ↓reduceIte, if_true, if_false, List.getElem?_cons_zero, List.getElem?_cons_succ, List.set_cons_zero, List.set_cons_succ, List.length_cons, List.length_nil, mz_s1, mz_s2, mz_cl, true_and, and_true, false_and, and_false, List.append_nil, mk_b0, mk_b1, mk_b2, mk_bn, Value.int.injEq, Option.toList_some, Option.toList_none, List.cons_append, List.nil_append, Classical.not_not, Option.some.injEq, reduceCtorEq, ne_eq, not_true_eq_false, not_false_eq_true, false_implies, true_implies, ev_46, ev_36, ev_51, ev_0, ev_61, ev_41, ev_6, ev_42, mz_rl d_Tabulator_goThrough_32, mz_rl d_Tabulator_goThrough_34, mz_rl d_Tabulator_goThrough_36, mz_rl d_Tabulator_goThrough_39, mz_rl d_Tabulator_goThrough_40, mz_rl d_Tabulator_goThrough_43, mz_rl d_Tabulator_goThrough_44, mz_rl d_Tabulator_goThrough_45, mz_rl d_Tabulator_goThrough_47, mz_rl d_Tabulator_goThrough_48, mz_rl d_Tabulator_goThrough_49, mz_rl d_Tabulator_goThrough_57, j_Tabulator_goThrough_36, j_Tabulator_goThrough_40, nF_10, show (nI 0 = 0) = True from eq_true rfl]
      exact rest
    · have p0 := hP (i - 1) (by omega)
      have hne : ¬ nI i = 0 := by
        show ¬ nI i = nI 0
        rw [nI_eq (show i < 2 ^ 31 by omega) (by decide)]; omega
      have eb : bkN F T w c s i = lbN F T (s (c (i - 1))) (s (c i)) w := if_neg hi0
      rw [eb] at rest
      refine mz_go [29] 20 ?_
      simp only [mz_r0, mk_lit, mk_fin, mk_cat, mk_fit, mk_nar, mk_cls, mk_ty, mk_isr, List.mem_cons, List.not_mem_nil, or_false, or_true, false_or, true_or, Nat.reduceEqDiff, Nat.reduceAdd, Nat.reduceSub, Nat.reduceLT, Nat.reduceLeDiff, ↓reduceIte, if_true, if_false, List.getElem?_cons_zero, List.getElem?_cons_succ, List.set_cons_zero, List.set_cons_succ, List.length_cons, List.length_nil, mz_s1, mz_s2, mz_cl, true_and, and_true, false_and, and_false, List.append_nil, mk_b0, mk_b1, mk_b2, mk_bn, Value.int.injEq, Option.toList_some, Option.toList_none, List.cons_append, List.nil_append, Classical.not_not, Option.some.injEq, reduceCtorEq, ne_eq, not_true_eq_false, not_false_eq_true, false_implies, true_implies, ev_36, ev_41, ev_79, ft_4_1, fn_4_1, ev_56, mz_rl d_Tabulator_goThrough_17, mz_rl d_Tabulator_goThrough_19, mz_rl d_Tabulator_goThrough_20, mz_rl d_Tabulator_goThrough_23, mz_rl d_Tabulator_goThrough_26, mz_rl d_Tabulator_goThrough_27, mz_rl d_Tabulator_goThrough_105, mz_rl d_Tabulator_goThrough_106, mz_rl d_Tabulator_goThrough_107, mz_rl d_Tabulator_goThrough_108, mz_rl d_Tabulator_goThrough_111, mz_rl d_Tabulator_goThrough_112, j_Tabulator_goThrough_23, nF_10, q1, nI_leI (show sz < 2 ^ 31 by omega) (show i < 2 ^ 31 by omega), show ¬ sz ≤ i by omega]
      refine mz_callV (by simp only [d_Tabulator_goThrough_29, Nat.reduceAdd]) g_10_55 rfl (fun _ _ h => h) (c_Deck_at G mk_P n H (k := i) q1 q2 (show i < 200 by omega) p1.1) q1 rfl rfl (by decide) (Nat.le_of_ble_eq_true rfl) rfl ?_; intro v_ n_ f_ h_; obtain ⟨rfl, hn_, hf_⟩ := h_; replace hn_ := hn_.symm; replace hf_ := hf_.symm; subst hn_; subst hf_
      refine mz_go [49] 40 ?_
      simp only [mz_r0, mk_lit, mk_fin, mk_cat, mk_fit, mk_nar, mk_cls, mk_ty, mk_isr, List.mem_cons, List.not_mem_nil, or_false, or_true, false_or, true_or, Nat.reduceEqDiff, Nat.reduceAdd, Nat.reduceSub, Nat.reduceLT, Nat.reduceLeDiff, ↓reduceIte, if_true, if_false, List.getElem?_cons_zero, List.getElem?_cons_succ, List.set_cons_zero, List.set_cons_succ, List.length_cons, List.length_nil, mz_s1, mz_s2, mz_cl, true_and, and_true, false_and, and_false, List.append_nil, mk_b0, mk_b1, mk_b2, mk_bn, Value.int.injEq, Option.toList_some, Option.toList_none, List.cons_append, List.nil_append, Classical.not_not, Option.some.injEq, reduceCtorEq, ne_eq, not_true_eq_false, not_false_eq_true, false_implies, true_implies, ev_46, ev_36, ev_51, ev_0, ev_61, ev_41, ev_6, ev_42, ev_40, mz_rl d_Tabulator_goThrough_32, mz_rl d_Tabulator_goThrough_34, mz_rl d_Tabulator_goThrough_36, mz_rl d_Tabulator_goThrough_39, mz_rl d_Tabulator_goThrough_40, mz_rl d_Tabulator_goThrough_43, mz_rl d_Tabulator_goThrough_44, mz_rl d_Tabulator_goThrough_45, mz_rl d_Tabulator_goThrough_47, mz_rl d_Tabulator_goThrough_48, mz_rl d_Tabulator_goThrough_57, mz_rl d_Tabulator_goThrough_59, mz_rl d_Tabulator_goThrough_60, mz_rl d_Tabulator_goThrough_61, mz_rl d_Tabulator_goThrough_63, mz_rl d_Tabulator_goThrough_65, mz_rl d_Tabulator_goThrough_67, j_Tabulator_goThrough_36, j_Tabulator_goThrough_40, nF_10, hne, pk_sub (show 1 ≤ i by omega)]
      refine mz_callV (by simp only [d_Tabulator_goThrough_49, Nat.reduceAdd]) g_10_55 rfl (fun _ _ h => h) (c_Deck_at G mk_P n H (k := i - 1) q1 q2 (show i - 1 < 200 by omega) p0.1) q1 rfl rfl (by decide) (Nat.le_of_ble_eq_true rfl) rfl ?_; intro v_ n_ f_ h_; obtain ⟨rfl, hn_, hf_⟩ := h_; replace hn_ := hn_.symm; replace hf_ := hf_.symm; subst hn_; subst hf_
      refine mz_go [54] 40 ?_
      simp only [mz_r0, mk_lit, mk_fin, mk_cat, mk_fit, mk_nar, mk_cls, mk_ty, mk_isr, List.mem_cons, List.not_mem_nil, or_false, or_true, false_or, true_or, Nat.reduceEqDiff, Nat.reduceAdd, Nat.reduceSub, Nat.reduceLT, Nat.reduceLeDiff, ↓reduceIte, if_true, if_false, List.getElem?_cons_zero, List.getElem?_cons_succ, List.set_cons_zero, List.set_cons_succ, List.length_cons, List.length_nil, mz_s1, mz_s2, mz_cl, true_and, and_true, false_and, and_false, List.append_nil, mk_b0, mk_b1, mk_b2, mk_bn, Value.int.injEq, Option.toList_some, Option.toList_none, List.cons_append, List.nil_append, Classical.not_not, Option.some.injEq, reduceCtorEq, ne_eq, not_true_eq_false, not_false_eq_true, false_implies, true_implies, ev_40, mz_rl d_Tabulator_goThrough_52, nF_10]
      refine mz_callV (by simp only [d_Tabulator_goThrough_54, Nat.reduceAdd]) g_10_59 rfl (fun _ _ h => h) (c_Board_levelsBroken G mk_P n H hBH hok hCH p0.2 p1.2) hBH.1 rfl rfl (by decide) (Nat.le_of_ble_eq_true rfl) rfl ?_; intro v_ n_ f_ h_; obtain ⟨rfl, hn_, hf_⟩ := h_; replace hn_ := hn_.symm; replace hf_ := hf_.symm; subst hn_; subst hf_
      refine mz_go [59] 40 ?_
      simp only [mz_r0, mk_lit, mk_fin, mk_cat, mk_fit, mk_nar, mk_cls, mk_ty, mk_isr, List.mem_cons, List.not_mem_nil, or_false, or_true, false_or, true_or, Nat.reduceEqDiff, Nat.reduceAdd, Nat.reduceSub, Nat.reduceLT, Nat.reduceLeDiff, ↓reduceIte, if_true, if_false, List.getElem?_cons_zero, List.getElem?_cons_succ, List.set_cons_zero, List.set_cons_succ, List.length_cons, List.length_nil, mz_s1, mz_s2, mz_cl, true_and, and_true, false_and, and_false, List.append_nil, mk_b0, mk_b1, mk_b2, mk_bn, Value.int.injEq, Option.toList_some, Option.toList_none, List.cons_append, List.nil_append, Classical.not_not, Option.some.injEq, reduceCtorEq, ne_eq, not_true_eq_false, not_false_eq_true, false_implies, true_implies, ev_42, mz_rl d_Tabulator_goThrough_57, nF_10]
      exact rest
/-- a whole run -/
def tbF (F T L : Nat → Nat) (w : Nat) (c : Nat → Nat) (s : Nat → Nat → Nat) (sz : Nat) (u : tT) : Nat × Nat × tT := tbG F T L w c s sz 0 (cpy (fun _ => 0) u.1 4, u.2)
theorem c_Tabulator_goThrough (G : mz_G) (n : Nat) (f : mz_H) {b w d a sz K : Nat} {F T L : Nat → Nat} {u0 w0 : Int32} {g : Nat → Option Nat} {c : Nat → Nat} {s : Nat → Nat → Nat} {u : tT} (hE : f 1000000000001 = mz_d) (hT : Tb f u.2.1) (hX : TT f u) (hB : Bd f b w F T L) (hok : BdOk w F T L) (hb : 126 < b) (h4 : f 4 = .inr (5, [.int u0, .int w0])) (hd1 : f d = .inr (4, [.ref a, .int (nI sz)])) (hd2 : f a = aQ 6 200 g) (hd : 125 < d) (ha : 125 < a) (hs : sz ≤ 200) (hC : Cd f K s) (hP : Ps g sz c K) :
    mz_Ct G mk_P y_Tabulator_goThrough b_Tabulator_goThrough 9 (some .int) (r_Tabulator_goThrough 0 0) [.ref 16, .ref b, .ref d, .ref 4] n f (tbP f n (tbF F T L w c s sz u)) := by
  have k7 := hX.1
  have h16 := hT.1
  refine mk_Ct 10 false [some (.ref 16), some (.ref b), some (.ref d), some (.ref 4), none, none, none, none, none] (by decide) rfl (by decide) (Nat.le_of_ble_eq_true rfl) rfl ?_
  refine mz_go [5] 20 ?_
  simp only [mz_r0, mk_lit, mk_fin, mk_cat, mk_fit, mk_nar, mk_cls, mk_ty, mk_isr, List.mem_cons, List.not_mem_nil, or_false, or_true, false_or, true_or, Nat.reduceEqDiff, Nat.reduceAdd, Nat.reduceSub, Nat.reduceLT, Nat.reduceLeDiff, ↓reduceIte, if_true, if_false, List.getElem?_cons_zero, List.getElem?_cons_succ, List.set_cons_zero, List.set_cons_succ, List.length_cons, List.length_nil, mz_s1, mz_s2, mz_cl, true_and, and_true, false_and, and_false, List.append_nil, mk_b0, mk_b1, mk_b2, mk_bn, Value.int.injEq, Option.toList_some, Option.toList_none, List.cons_append, List.nil_append, Classical.not_not, Option.some.injEq, reduceCtorEq, ne_eq, not_true_eq_false, not_false_eq_true, false_implies, true_implies, ev_41, ev_79, ft_10_0, fn_10_0, ev_0, mz_rl d_Tabulator_goThrough_0, mz_rl d_Tabulator_goThrough_1, mz_rl d_Tabulator_goThrough_4, nF_10, h16]
  refine mz_callS (by simp only [d_Tabulator_goThrough_5, Nat.reduceAdd]) g_10_37 rfl (fun _ _ h => h) (c_Arrays_fill G mk_P n f (nI 0) k7 (by decide)) (by decide) (Nat.le_of_ble_eq_true rfl) rfl ?_; intro v_ n_ f_ h_; obtain ⟨rfl, hn_, hf_⟩ := h_; replace hn_ := hn_.symm; replace hf_ := hf_.symm; subst hn_; subst hf_
  have e : cpy (fun _ => nI 0) (fun j => nI (u.1 j)) 4 = fun j => nI (cpy (fun _ => 0) u.1 4 j) := nI_cpy (fun _ => 0) u.1 4
  rw [e]
  have hT2 := Tb_17 hT (fun j => nI (cpy (fun _ => 0) u.1 4 j))
  have hX2 := TT_17 hX (cm := cpy (fun _ => 0) u.1 4) (fun c hc => by rw [cpy_lt hc]; decide)
  have hF2 : FrT f _ := FrT_u (a := 17) FrT_rf (by decide) (aI 4 (fun j => nI (cpy (fun _ => 0) u.1 4 j)))
  have hB2 := Bd_T hF2 hB hb
  refine mz_go [9] 20 ?_
  simp only [mz_r0, mk_lit, mk_fin, mk_cat, mk_fit, mk_nar, mk_cls, mk_ty, mk_isr, List.mem_cons, List.not_mem_nil, or_false, or_true, false_or, true_or, Nat.reduceEqDiff, Nat.reduceAdd, Nat.reduceSub, Nat.reduceLT, Nat.reduceLeDiff, ↓reduceIte, if_true, if_false, List.getElem?_cons_zero, List.getElem?_cons_succ, List.set_cons_zero, List.set_cons_succ, List.length_cons, List.length_nil, mz_s1, mz_s2, mz_cl, true_and, and_true, false_and, and_false, List.append_nil, mk_b0, mk_b1, mk_b2, mk_bn, Value.int.injEq, Option.toList_some, Option.toList_none, List.cons_append, List.nil_append, Classical.not_not, Option.some.injEq, reduceCtorEq, ne_eq, not_true_eq_false, not_false_eq_true, false_implies, true_implies, ev_41, mz_rl d_Tabulator_goThrough_8, nF_10]
  refine mz_callV (by simp only [d_Tabulator_goThrough_9, Nat.reduceAdd]) g_10_43 rfl (fun _ _ h => h) (c_Board_isListing G mk_P n _ hB2 hok) hB2.1 rfl rfl (by decide) (Nat.le_of_ble_eq_true rfl) rfl ?_; intro v_ n_ f_ h_; obtain ⟨rfl, hn_, hf_⟩ := h_; replace hn_ := hn_.symm; replace hf_ := hf_.symm; subst hn_; subst hf_
  refine mz_go [17] 20 ?_
  simp only [mz_r0, mk_lit, mk_fin, mk_cat, mk_fit, mk_nar, mk_cls, mk_ty, mk_isr, List.mem_cons, List.not_mem_nil, or_false, or_true, false_or, true_or, Nat.reduceEqDiff, Nat.reduceAdd, Nat.reduceSub, Nat.reduceLT, Nat.reduceLeDiff, ↓reduceIte, if_true, if_false, List.getElem?_cons_zero, List.getElem?_cons_succ, List.set_cons_zero, List.set_cons_succ, List.length_cons, List.length_nil, mz_s1, mz_s2, mz_cl, true_and, and_true, false_and, and_false, List.append_nil, mk_b0, mk_b1, mk_b2, mk_bn, Value.int.injEq, Option.toList_some, Option.toList_none, List.cons_append, List.nil_append, Classical.not_not, Option.some.injEq, reduceCtorEq, ne_eq, not_true_eq_false, not_false_eq_true, false_implies, true_implies, ev_42, ev_0, mz_rl d_Tabulator_goThrough_12, mz_rl d_Tabulator_goThrough_14, mz_rl d_Tabulator_goThrough_15, nF_10]
  exact l_Tabulator_goThrough G n f hE hB hok hb h4 hd1 hd2 hd ha hs hC hP _ sz 0 (cpy (fun _ => 0) u.1 4, u.2) _ none none none (by omega) (fun v hv => by cases hv) (fun v hv => by cases hv) (fun v hv => by cases hv) rfl hT2 hX2 hF2
end
