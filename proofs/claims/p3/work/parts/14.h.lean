/-! sorting in the reference -/
def vc (K : Nat) (x : Int32) : Prop := ∃ c, c < K ∧ x = nI c
theorem l_Model_putIn (G : mz_G) (n : Nat) (f : mz_H) {K ln n0 x fr to : Nat} {t p br u a : Int32} {S W : Nat → Nat} {s : Nat → Int32} (e158 : f 158 = mo t K ln p br u a) (h : MP f K ln S W) (hn : n0 < 200) (hx : x < K) (hf : fr ≤ to) (ht : to < 16) :
    ∀ k s1, k ≤ n0 → (∀ j, j ≤ n0 → j ≠ k → vc K (s1 j)) → (∀ j, j < n0 → ∃ j', j' ≤ n0 ∧ j' ≠ k ∧ s1 j' = s j) → mz_X G mk_P 11 false b_Model_putIn 7 none (r_Model_putIn 0 0) (fun v n' f' => v = none ∧ n' = n ∧ ∃ s', f' = mz_u f 162 (aS 200 s') ∧ (∀ j, j ≤ n0 → vc K (s' j)) ∧ (∀ j, j < n0 → ∃ j', j' ≤ n0 ∧ s' j' = s j) ∧ ∃ j', j' ≤ n0 ∧ s' j' = nI x) (fun _ _ _ => False) 3 [some (.ref 158), some (.ref 162), some (.int (nI n0)), some (.int (nI x)), some (.int (nI fr)), some (.int (nI to)), some (.int (nI k))] [] 0 0 n (mz_u f 162 (aS 200 s1)) := by
  have hK := h.1.2.1
  have fin : ∀ k s1, k ≤ n0 → (∀ j, j ≤ n0 → j ≠ k → vc K (s1 j)) → (∀ j, j < n0 → ∃ j', j' ≤ n0 ∧ j' ≠ k ∧ s1 j' = s j) → mz_X G mk_P 11 false b_Model_putIn 7 none (r_Model_putIn 0 0) (fun v n' f' => v = none ∧ n' = n ∧ ∃ s', f' = mz_u f 162 (aS 200 s') ∧ (∀ j, j ≤ n0 → vc K (s' j)) ∧ (∀ j, j < n0 → ∃ j', j' ≤ n0 ∧ s' j' = s j) ∧ ∃ j', j' ≤ n0 ∧ s' j' = nI x) (fun _ _ _ => False) 42 [some (.ref 158), some (.ref 162), some (.int (nI n0)), some (.int (nI x)), some (.int (nI fr)), some (.int (nI to)), some (.int (nI k))] [] 0 0 n (mz_u f 162 (aS 200 s1)) := by
    intro k s1 hk h1 h2
    refine mz_go [] 30 ?_
    simp only [mz_run, ev_0, ev_1, ev_2, ev_3, ev_4, ev_5, ev_6, ev_7, ev_8, ev_9, ev_10, ev_11, ev_12, ev_13, ev_14, ev_15, ev_16, ev_17, ev_18, ev_19, ev_20, ev_21, ev_22, ev_23, ev_24, ev_25, ev_26, ev_27, ev_28, ev_29, ev_30, ev_31, ev_32, ev_33, ev_34, ev_35, ev_36, ev_37, ev_38, ev_39, ev_40, ev_41, ev_42, ev_43, ev_44, ev_45, ev_46, ev_47, ev_48, ev_49, ev_50, ev_51, ev_52, ev_53, ev_54, ev_55, ev_56, ev_57, ev_58, ev_59, ev_60, ev_61, ev_62, ev_63, ev_64, ev_65, ev_66, ev_67, ev_68, ev_69, ev_70, ev_71, ev_72, ev_73, ev_74, ev_75, ev_76, ev_77, ev_78, ev_79, ev_80, ev_81, ev_82, ev_83, mk_lit, mk_fin, mk_cat, mk_fit, mk_nar, mk_fld, mk_cls, mk_ty, mk_isr, List.mem_cons, List.not_mem_nil, or_false, or_true, false_or, true_or, Nat.reduceEqDiff, Nat.reduceAdd, Nat.reduceSub, Nat.reduceLT, Nat.reduceLeDiff, reduceIte, if_true, if_false, List.getElem?_cons_zero, List.getElem?_cons_succ, List.set_cons_zero, List.set_cons_succ, List.length_cons, List.length_nil, mz_s1, mz_s2, mz_cl, true_and, and_true, false_and, and_false, List.append_nil, mk_b0, mk_b1, mk_b2, mk_bn, Value.int.injEq, Option.toList_some, Option.toList_none, List.cons_append, List.nil_append, Classical.not_not, Option.some.injEq, reduceCtorEq, ne_eq, not_true_eq_false, not_false_eq_true, false_implies, true_implies, d_Model_putIn, j_Model_putIn, nF_11, mz_u_s, mz_uu, vp_in_nI (show k < 200 by omega) (show 200 < 2 ^ 31 by decide), nI_clamp (show k < 2 ^ 31 by omega), n2s x (by omega), n2sn x (by omega)]
    refine ⟨_, rfl, fun j hj => ?_, fun j hj => ?_, k, hk, pk_us⟩
    · by_cases e : j = k
      · subst e; exact ⟨x, hx, pk_us⟩
      · rw [pk_un e]; exact h1 j hj e
    · obtain ⟨j', q1, q2, q3⟩ := h2 j hj
      exact ⟨j', q1, by rw [pk_un q2]; exact q3⟩
  intro k
  induction k with
  | zero =>
    intro s1 hk h1 h2
    refine mz_go [42] 30 ?_
    simp only [mz_run, ev_0, ev_1, ev_2, ev_3, ev_4, ev_5, ev_6, ev_7, ev_8, ev_9, ev_10, ev_11, ev_12, ev_13, ev_14, ev_15, ev_16, ev_17, ev_18, ev_19, ev_20, ev_21, ev_22, ev_23, ev_24, ev_25, ev_26, ev_27, ev_28, ev_29, ev_30, ev_31, ev_32, ev_33, ev_34, ev_35, ev_36, ev_37, ev_38, ev_39, ev_40, ev_41, ev_42, ev_43, ev_44, ev_45, ev_46, ev_47, ev_48, ev_49, ev_50, ev_51, ev_52, ev_53, ev_54, ev_55, ev_56, ev_57, ev_58, ev_59, ev_60, ev_61, ev_62, ev_63, ev_64, ev_65, ev_66, ev_67, ev_68, ev_69, ev_70, ev_71, ev_72, ev_73, ev_74, ev_75, ev_76, ev_77, ev_78, ev_79, ev_80, ev_81, ev_82, ev_83, mk_lit, mk_fin, mk_cat, mk_fit, mk_nar, mk_fld, mk_cls, mk_ty, mk_isr, List.mem_cons, List.not_mem_nil, or_false, or_true, false_or, true_or, Nat.reduceEqDiff, Nat.reduceAdd, Nat.reduceSub, Nat.reduceLT, Nat.reduceLeDiff, reduceIte, if_true, if_false, List.getElem?_cons_zero, List.getElem?_cons_succ, List.set_cons_zero, List.set_cons_succ, List.length_cons, List.length_nil, mz_s1, mz_s2, mz_cl, true_and, and_true, false_and, and_false, List.append_nil, mk_b0, mk_b1, mk_b2, mk_bn, Value.int.injEq, Option.toList_some, Option.toList_none, List.cons_append, List.nil_append, Classical.not_not, Option.some.injEq, reduceCtorEq, ne_eq, not_true_eq_false, not_false_eq_true, false_implies, true_implies, d_Model_putIn, j_Model_putIn, nF_11, show nI 0 ≤ (0 : Int32) by decide]
    exact fin 0 s1 hk h1 h2
  | succ k ih =>
    intro s1 hk h1 h2
    obtain ⟨c, hc, ec⟩ := h1 k (by omega) (by omega)
    have esub : nI (k + 1) - nI 1 = nI k := pk_sub (by omega)
    have gt0 : ¬ nI (k + 1) ≤ (0 : Int32) := by
      show ¬ nI (k + 1) ≤ nI 0
      rw [nI_leI (show k + 1 < 2 ^ 31 by omega) (show 0 < 2 ^ 31 by omega)]; omega
    have e158' : (mz_u f 162 (aS 200 s1)) 158 = mo t K ln p br u a := (mz_u_n (by decide)).trans e158
    refine mz_go [20] 30 ?_
    simp only [mz_run, ev_0, ev_1, ev_2, ev_3, ev_4, ev_5, ev_6, ev_7, ev_8, ev_9, ev_10, ev_11, ev_12, ev_13, ev_14, ev_15, ev_16, ev_17, ev_18, ev_19, ev_20, ev_21, ev_22, ev_23, ev_24, ev_25, ev_26, ev_27, ev_28, ev_29, ev_30, ev_31, ev_32, ev_33, ev_34, ev_35, ev_36, ev_37, ev_38, ev_39, ev_40, ev_41, ev_42, ev_43, ev_44, ev_45, ev_46, ev_47, ev_48, ev_49, ev_50, ev_51, ev_52, ev_53, ev_54, ev_55, ev_56, ev_57, ev_58, ev_59, ev_60, ev_61, ev_62, ev_63, ev_64, ev_65, ev_66, ev_67, ev_68, ev_69, ev_70, ev_71, ev_72, ev_73, ev_74, ev_75, ev_76, ev_77, ev_78, ev_79, ev_80, ev_81, ev_82, ev_83, mk_lit, mk_fin, mk_cat, mk_fit, mk_nar, mk_fld, mk_cls, mk_ty, mk_isr, List.mem_cons, List.not_mem_nil, or_false, or_true, false_or, true_or, Nat.reduceEqDiff, Nat.reduceAdd, Nat.reduceSub, Nat.reduceLT, Nat.reduceLeDiff, reduceIte, if_true, if_false, List.getElem?_cons_zero, List.getElem?_cons_succ, List.set_cons_zero, List.set_cons_succ, List.length_cons, List.length_nil, mz_s1, mz_s2, mz_cl, true_and, and_true, false_and, and_false, List.append_nil, mk_b0, mk_b1, mk_b2, mk_bn, Value.int.injEq, Option.toList_some, Option.toList_none, List.cons_append, List.nil_append, Classical.not_not, Option.some.injEq, reduceCtorEq, ne_eq, not_true_eq_false, not_false_eq_true, false_implies, true_implies, d_Model_putIn, j_Model_putIn, nF_11, eq_false gt0, esub, mz_u_s, vp_in_nI (show k < 200 by omega) (show 200 < 2 ^ 31 by decide), nI_clamp (show k < 2 ^ 31 by omega), ec]
    refine mz_callV (by simp only [d_Model_putIn, Nat.reduceAdd]) g_11_117 rfl (fun _ _ h => h) (c_Model_compare G n _ (MP_162 h s1) (show c < 200 by omega) (show x < 200 by omega) hf ht) e158' rfl rfl (by decide) (Nat.le_of_ble_eq_true rfl) rfl ?_; intro v_ n_ f_ h_; obtain ⟨⟨r, rfl⟩, hn_, hf_⟩ := h_; replace hn_ := hn_.symm; replace hf_ := hf_.symm; subst hn_; subst hf_
    by_cases hr : r ≤ 0
    · refine mz_go [42] 30 ?_
      simp only [mz_run, ev_0, ev_1, ev_2, ev_3, ev_4, ev_5, ev_6, ev_7, ev_8, ev_9, ev_10, ev_11, ev_12, ev_13, ev_14, ev_15, ev_16, ev_17, ev_18, ev_19, ev_20, ev_21, ev_22, ev_23, ev_24, ev_25, ev_26, ev_27, ev_28, ev_29, ev_30, ev_31, ev_32, ev_33, ev_34, ev_35, ev_36, ev_37, ev_38, ev_39, ev_40, ev_41, ev_42, ev_43, ev_44, ev_45, ev_46, ev_47, ev_48, ev_49, ev_50, ev_51, ev_52, ev_53, ev_54, ev_55, ev_56, ev_57, ev_58, ev_59, ev_60, ev_61, ev_62, ev_63, ev_64, ev_65, ev_66, ev_67, ev_68, ev_69, ev_70, ev_71, ev_72, ev_73, ev_74, ev_75, ev_76, ev_77, ev_78, ev_79, ev_80, ev_81, ev_82, ev_83, mk_lit, mk_fin, mk_cat, mk_fit, mk_nar, mk_fld, mk_cls, mk_ty, mk_isr, List.mem_cons, List.not_mem_nil, or_false, or_true, false_or, true_or, Nat.reduceEqDiff, Nat.reduceAdd, Nat.reduceSub, Nat.reduceLT, Nat.reduceLeDiff, reduceIte, if_true, if_false, List.getElem?_cons_zero, List.getElem?_cons_succ, List.set_cons_zero, List.set_cons_succ, List.length_cons, List.length_nil, mz_s1, mz_s2, mz_cl, true_and, and_true, false_and, and_false, List.append_nil, mk_b0, mk_b1, mk_b2, mk_bn, Value.int.injEq, Option.toList_some, Option.toList_none, List.cons_append, List.nil_append, Classical.not_not, Option.some.injEq, reduceCtorEq, ne_eq, not_true_eq_false, not_false_eq_true, false_implies, true_implies, d_Model_putIn, j_Model_putIn, nF_11, eq_true hr]
      exact fin (k + 1) s1 hk h1 h2
    · refine mz_go [3] 30 ?_
      simp only [mz_run, ev_0, ev_1, ev_2, ev_3, ev_4, ev_5, ev_6, ev_7, ev_8, ev_9, ev_10, ev_11, ev_12, ev_13, ev_14, ev_15, ev_16, ev_17, ev_18, ev_19, ev_20, ev_21, ev_22, ev_23, ev_24, ev_25, ev_26, ev_27, ev_28, ev_29, ev_30, ev_31, ev_32, ev_33, ev_34, ev_35, ev_36, ev_37, ev_38, ev_39, ev_40, ev_41, ev_42, ev_43, ev_44, ev_45, ev_46, ev_47, ev_48, ev_49, ev_50, ev_51, ev_52, ev_53, ev_54, ev_55, ev_56, ev_57, ev_58, ev_59, ev_60, ev_61, ev_62, ev_63, ev_64, ev_65, ev_66, ev_67, ev_68, ev_69, ev_70, ev_71, ev_72, ev_73, ev_74, ev_75, ev_76, ev_77, ev_78, ev_79, ev_80, ev_81, ev_82, ev_83, mk_lit, mk_fin, mk_cat, mk_fit, mk_nar, mk_fld, mk_cls, mk_ty, mk_isr, List.mem_cons, List.not_mem_nil, or_false, or_true, false_or, true_or, Nat.reduceEqDiff, Nat.reduceAdd, Nat.reduceSub, Nat.reduceLT, Nat.reduceLeDiff, reduceIte, if_true, if_false, List.getElem?_cons_zero, List.getElem?_cons_succ, List.set_cons_zero, List.set_cons_succ, List.length_cons, List.length_nil, mz_s1, mz_s2, mz_cl, true_and, and_true, false_and, and_false, List.append_nil, mk_b0, mk_b1, mk_b2, mk_bn, Value.int.injEq, Option.toList_some, Option.toList_none, List.cons_append, List.nil_append, Classical.not_not, Option.some.injEq, reduceCtorEq, ne_eq, not_true_eq_false, not_false_eq_true, false_implies, true_implies, d_Model_putIn, j_Model_putIn, nF_11, eq_false hr, esub, m1s, mz_u_s, mz_uu, vp_in_nI (show k < 200 by omega) (show 200 < 2 ^ 31 by decide), nI_clamp (show k < 2 ^ 31 by omega), vp_in_nI (show k + 1 < 200 by omega) (show 200 < 2 ^ 31 by decide), nI_clamp (show k + 1 < 2 ^ 31 by omega), ec, n2sn c (by omega)]
      refine ih _ (by omega) (fun j hj hne => ?_) (fun j hj => ?_)
      · by_cases e : j = k + 1
        · subst e; exact ⟨c, hc, pk_us⟩
        · rw [pk_un e]; exact h1 j hj e
      · obtain ⟨j', q1, q2, q3⟩ := h2 j hj
        by_cases e : j' = k
        · subst e
          exact ⟨j' + 1, by omega, by omega, by rw [pk_us, ← ec]; exact q3⟩
        · exact ⟨j', q1, e, by rw [pk_un q2]; exact q3⟩
theorem c_Model_putIn (G : mz_G) (n : Nat) (f : mz_H) {K ln n0 x fr to : Nat} {S W : Nat → Nat} {s : Nat → Int32} (h : MP f K ln S W) (e162 : f 162 = aS 200 s) (hn : n0 < 200) (hv : ∀ j, j < n0 → vc K (s j)) (hx : x < K) (hf : fr ≤ to) (ht : to < 16) : mz_Ct G mk_P y_Model_putIn b_Model_putIn 7 none (r_Model_putIn 0 0) [.ref 158, .ref 162, .int (nI n0), .int (nI x), .int (nI fr), .int (nI to)] n f (fun v n' f' => v = none ∧ n' = n ∧ ∃ s', f' = mz_u f 162 (aS 200 s') ∧ (∀ j, j ≤ n0 → vc K (s' j)) ∧ (∀ j, j < n0 → ∃ j', j' ≤ n0 ∧ s' j' = s j) ∧ ∃ j', j' ≤ n0 ∧ s' j' = nI x) := by
  obtain ⟨t, p, br, u, a, e158⟩ := h.1.1
  refine mk_Ct 11 false [some (.ref 158), some (.ref 162), some (.int (nI n0)), some (.int (nI x)), some (.int (nI fr)), some (.int (nI to)), none] (by decide) rfl (by decide) (Nat.le_of_ble_eq_true rfl) rfl ?_
  refine mz_go [3] 30 ?_
  simp only [mz_run, ev_0, ev_1, ev_2, ev_3, ev_4, ev_5, ev_6, ev_7, ev_8, ev_9, ev_10, ev_11, ev_12, ev_13, ev_14, ev_15, ev_16, ev_17, ev_18, ev_19, ev_20, ev_21, ev_22, ev_23, ev_24, ev_25, ev_26, ev_27, ev_28, ev_29, ev_30, ev_31, ev_32, ev_33, ev_34, ev_35, ev_36, ev_37, ev_38, ev_39, ev_40, ev_41, ev_42, ev_43, ev_44, ev_45, ev_46, ev_47, ev_48, ev_49, ev_50, ev_51, ev_52, ev_53, ev_54, ev_55, ev_56, ev_57, ev_58, ev_59, ev_60, ev_61, ev_62, ev_63, ev_64, ev_65, ev_66, ev_67, ev_68, ev_69, ev_70, ev_71, ev_72, ev_73, ev_74, ev_75, ev_76, ev_77, ev_78, ev_79, ev_80, ev_81, ev_82, ev_83, mk_lit, mk_fin, mk_cat, mk_fit, mk_nar, mk_fld, mk_cls, mk_ty, mk_isr, List.mem_cons, List.not_mem_nil, or_false, or_true, false_or, true_or, Nat.reduceEqDiff, Nat.reduceAdd, Nat.reduceSub, Nat.reduceLT, Nat.reduceLeDiff, reduceIte, if_true, if_false, List.getElem?_cons_zero, List.getElem?_cons_succ, List.set_cons_zero, List.set_cons_succ, List.length_cons, List.length_nil, mz_s1, mz_s2, mz_cl, true_and, and_true, false_and, and_false, List.append_nil, mk_b0, mk_b1, mk_b2, mk_bn, Value.int.injEq, Option.toList_some, Option.toList_none, List.cons_append, List.nil_append, Classical.not_not, Option.some.injEq, reduceCtorEq, ne_eq, not_true_eq_false, not_false_eq_true, false_implies, true_implies, d_Model_putIn, j_Model_putIn, nF_11]
  have := l_Model_putIn G n f (s := s) e158 h hn hx hf ht n0 s (Nat.le_refl _) (fun j hj hne => hv j (by omega)) (fun j hj => ⟨j, by omega, by omega, rfl⟩)
  rw [mz_ui e162] at this
  exact this
/-- a valid card put at any place -/
theorem vd_upd {K x q : Nat} {S : Nat → Nat} {g : Nat → Int32} (hx : x < K) (hg : ∀ d i, d < 8 → i < S d → ∃ c, c < K ∧ g (200 * d + i) = nI c) : ∀ d i, d < 8 → i < S d → ∃ c, c < K ∧ (upd g q (nI x)) (200 * d + i) = nI c := fun d i hd hi => by
  by_cases e : 200 * d + i = q
  · subst e; exact ⟨x, hx, pk_us⟩
  · rw [pk_un e]; exact hg d i hd hi
theorem Md_g {f : mz_H} {K : Nat} {S : Nat → Nat} {g : Nat → Int32} (h : Md f K S) (hg : ∀ d i, d < 8 → i < S d → ∃ c, c < K ∧ g (200 * d + i) = nI c) : Md (mz_u f 160 (aS 1600 g)) K S := ⟨(mz_u_n (by decide)).trans h.1, h.2.1, g, mz_u_s _ _ _, hg⟩
theorem MP_160 {f : mz_H} {K ln : Nat} {S W : Nat → Nat} {g : Nat → Int32} (h : MP f K ln S W) (hg : ∀ d i, d < 8 → i < S d → ∃ c, c < K ∧ g (200 * d + i) = nI c) : MP (mz_u f 160 (aS 1600 g)) K ln S W := MP_dk h (fun q z1 z2 => mz_u_n z1) (Md_g h.2.1 hg)
/-- sift's way back -/
theorem l_Model_sift3 (G : mz_G) (n : Nat) (f : mz_H) {K ln d N : Nat} {t p br u a : Int32} {S W : Nat → Nat} {s : Nat → Int32} {w2 w3 w7 w8 : Option Value} {ps : Int32} (e158 : f 158 = mo t K ln p br u a) (h : MP f K ln S W) (e162 : f 162 = aS 200 s) (hv : ∀ j, j < N → vc K (s j)) (hN : N ≤ 200) (hd : d < 8) :
    ∀ m k g, k + m = N → (∀ d i, d < 8 → i < S d → ∃ c, c < K ∧ g (200 * d + i) = nI c) → mz_X G mk_P 11 false b_Model_sift 9 (some .int) (r_Model_sift 0 0) (fun v n' f' => (∃ r, v = some (.int r)) ∧ n' = n ∧ MP f' K ln S W ∧ FrC f f') (fun _ _ _ => False) 102 [some (.ref 158), some (.int (nI d)), w2, w3, some (.int (nI N)), some (.int ps), some (.int (nI k)), w7, w8] [] 0 0 n (mz_u f 160 (aS 1600 g)) := by
  have hK := h.1.2.1
  intro m
  induction m with
  | zero =>
    intro k g hk hg
    refine mz_go [102] 30 ?_
    simp only [mz_run, ev_0, ev_1, ev_2, ev_3, ev_4, ev_5, ev_6, ev_7, ev_8, ev_9, ev_10, ev_11, ev_12, ev_13, ev_14, ev_15, ev_16, ev_17, ev_18, ev_19, ev_20, ev_21, ev_22, ev_23, ev_24, ev_25, ev_26, ev_27, ev_28, ev_29, ev_30, ev_31, ev_32, ev_33, ev_34, ev_35, ev_36, ev_37, ev_38, ev_39, ev_40, ev_41, ev_42, ev_43, ev_44, ev_45, ev_46, ev_47, ev_48, ev_49, ev_50, ev_51, ev_52, ev_53, ev_54, ev_55, ev_56, ev_57, ev_58, ev_59, ev_60, ev_61, ev_62, ev_63, ev_64, ev_65, ev_66, ev_67, ev_68, ev_69, ev_70, ev_71, ev_72, ev_73, ev_74, ev_75, ev_76, ev_77, ev_78, ev_79, ev_80, ev_81, ev_82, ev_83, mk_lit, mk_fin, mk_cat, mk_fit, mk_nar, mk_fld, mk_cls, mk_ty, mk_isr, List.mem_cons, List.not_mem_nil, or_false, or_true, false_or, true_or, Nat.reduceEqDiff, Nat.reduceAdd, Nat.reduceSub, Nat.reduceLT, Nat.reduceLeDiff, reduceIte, if_true, if_false, List.getElem?_cons_zero, List.getElem?_cons_succ, List.set_cons_zero, List.set_cons_succ, List.length_cons, List.length_nil, mz_s1, mz_s2, mz_cl, true_and, and_true, false_and, and_false, List.append_nil, mk_b0, mk_b1, mk_b2, mk_bn, Value.int.injEq, Option.toList_some, Option.toList_none, List.cons_append, List.nil_append, Classical.not_not, Option.some.injEq, reduceCtorEq, ne_eq, not_true_eq_false, not_false_eq_true, false_implies, true_implies, d_Model_sift, j_Model_sift, nF_11, nI_leI (show N < 2 ^ 31 by omega) (show k < 2 ^ 31 by omega), show N ≤ k by omega, mz_u_n (show 158 ≠ 160 by decide), e158, mo]
    exact ⟨⟨_, rfl⟩, MP_mo (MP_160 h hg) (Nat.le_refl _) h.1.2.1 h.1.2.2 _ _ _ _ _, FrC_u (FrC_1 f (by decide) _) (by decide) _⟩
  | succ m ih =>
    intro k g hk hg
    obtain ⟨c, hc, ec⟩ := hv k (by omega)
    refine mz_go [102] 30 ?_
    simp only [mz_run, ev_0, ev_1, ev_2, ev_3, ev_4, ev_5, ev_6, ev_7, ev_8, ev_9, ev_10, ev_11, ev_12, ev_13, ev_14, ev_15, ev_16, ev_17, ev_18, ev_19, ev_20, ev_21, ev_22, ev_23, ev_24, ev_25, ev_26, ev_27, ev_28, ev_29, ev_30, ev_31, ev_32, ev_33, ev_34, ev_35, ev_36, ev_37, ev_38, ev_39, ev_40, ev_41, ev_42, ev_43, ev_44, ev_45, ev_46, ev_47, ev_48, ev_49, ev_50, ev_51, ev_52, ev_53, ev_54, ev_55, ev_56, ev_57, ev_58, ev_59, ev_60, ev_61, ev_62, ev_63, ev_64, ev_65, ev_66, ev_67, ev_68, ev_69, ev_70, ev_71, ev_72, ev_73, ev_74, ev_75, ev_76, ev_77, ev_78, ev_79, ev_80, ev_81, ev_82, ev_83, mk_lit, mk_fin, mk_cat, mk_fit, mk_nar, mk_fld, mk_cls, mk_ty, mk_isr, List.mem_cons, List.not_mem_nil, or_false, or_true, false_or, true_or, Nat.reduceEqDiff, Nat.reduceAdd, Nat.reduceSub, Nat.reduceLT, Nat.reduceLeDiff, reduceIte, if_true, if_false, List.getElem?_cons_zero, List.getElem?_cons_succ, List.set_cons_zero, List.set_cons_succ, List.length_cons, List.length_nil, mz_s1, mz_s2, mz_cl, true_and, and_true, false_and, and_false, List.append_nil, mk_b0, mk_b1, mk_b2, mk_bn, Value.int.injEq, Option.toList_some, Option.toList_none, List.cons_append, List.nil_append, Classical.not_not, Option.some.injEq, reduceCtorEq, ne_eq, not_true_eq_false, not_false_eq_true, false_implies, true_implies, d_Model_sift, j_Model_sift, nF_11, nI_leI (show N < 2 ^ 31 by omega) (show k < 2 ^ 31 by omega), show ¬ N ≤ k by omega, mz_u_n (show 158 ≠ 160 by decide), mz_u_n (show 162 ≠ 160 by decide), e158, e162, mo, mz_u_s, mz_uu, pk_mul, nI_add, vp_in_nI (show 200 * d + k < 1600 by omega) (show 1600 < 2 ^ 31 by decide), nI_clamp (show 200 * d + k < 2 ^ 31 by omega), vp_in_nI (show k < 200 by omega) (show 200 < 2 ^ 31 by decide), nI_clamp (show k < 2 ^ 31 by omega), ec, n2sn c (by omega)]
    exact ih (k + 1) _ (by omega) (vd_upd hc hg)
/-- how many of the first i have the key r -/
def kc (q : Nat → Int32) (r : Nat) : Nat → Nat
  | 0 => 0
  | i + 1 => kc q r i + (if q i = nI r then 1 else 0)
/-- .. a key below r -/
def kb (q : Nat → Int32) (i : Nat) : Nat → Nat
  | 0 => 0
  | r + 1 => kb q i r + kc q r i
def ko (x : Int32) : Nat → Nat
  | 0 => 0
  | r + 1 => ko x r + (if x = nI r then 1 else 0)
theorem nI_inj {a b : Nat} (ha : a < 2 ^ 31) (hb : b < 2 ^ 31) (h : nI a = nI b) : a = b := by
  have := congrArg Int32.toInt h
  rw [mk_nti ha, mk_nti hb] at this
  omega
theorem ko_le (x : Int32) : ∀ r, r ≤ 11 → ko x r ≤ 1 ∧ (0 < ko x r → ∃ j, j < r ∧ x = nI j) := by
  intro r
  induction r with
  | zero => intro _; exact ⟨by simp [ko], fun h => absurd h (by simp [ko])⟩
  | succ r ih =>
    intro hr
    obtain ⟨h1, h2⟩ := ih (by omega)
    by_cases e : x = nI r
    · have z : ko x r = 0 := by
        rcases Nat.eq_zero_or_pos (ko x r) with q | q
        · exact q
        · obtain ⟨j, hj, ej⟩ := h2 q
          have := nI_inj (show r < 2 ^ 31 by omega) (show j < 2 ^ 31 by omega) (e.symm.trans ej)
          omega
      exact ⟨by show ko x r + (if x = nI r then 1 else 0) ≤ 1; rw [z, if_pos e]; omega, fun _ => ⟨r, by omega, e⟩⟩
    · refine ⟨by simp [ko, e]; exact h1, fun h => ?_⟩
      simp [ko, e] at h
      obtain ⟨j, hj, ej⟩ := h2 h
      exact ⟨j, by omega, ej⟩
theorem kb_s (q : Nat → Int32) (i : Nat) : ∀ r, kb q (i + 1) r = kb q i r + ko (q i) r := by
  intro r
  induction r with
  | zero => rfl
  | succ r ih => simp only [kb, kc, ko, ih]; omega
theorem kb_0 (q : Nat → Int32) : ∀ r, kb q 0 r = 0 := by
  intro r
  induction r with
  | zero => rfl
  | succ r ih => simp [kb, kc, ih]
theorem kb_le (q : Nat → Int32) (r : Nat) (hr : r ≤ 11) : ∀ i, kb q i r ≤ i := by
  intro i
  induction i with
  | zero => rw [kb_0]; omega
  | succ i ih =>
    have := (ko_le (q i) r hr).1
    rw [kb_s]; omega
/-- one key -/
theorem l_Model_sift2 (G : mz_G) (n : Nat) (f : mz_H) {K ln d col N0 kk : Nat} {t p br u a : Int32} {S W : Nat → Nat} {g g9 : Nat → Int32} {ps : Int32} (z : Bool) (post : Option Value → Nat → mz_H → Prop) (q : Nat → Int32) (hq : q = fun i => kI g9 z (g (200 * d + i)).toNatClampNeg col) (e158 : f 158 = mo t K ln p br u a) (h : MP f K ln S W) (e159 : f 159 = aB 3200 g9) (e160 : f 160 = aS 1600 g) (hg : ∀ d i, d < 8 → i < S d → ∃ c, c < K ∧ g (200 * d + i) = nI c) (hd : d < 8) (hcol : col < 16) (hkk : kk < 11) (hN : N0 + kc q kk (S d) ≤ 200)
    (hend : ∀ s, (∀ j, j < N0 + kc q kk (S d) → vc K (s j)) → mz_X G mk_P 11 false b_Model_sift 9 (some .int) (r_Model_sift 0 0) post (fun _ _ _ => False) 76 [some (.ref 158), some (.int (nI d)), some (.int (nI col)), some (.int (mk_b (z = true))), some (.int (nI (N0 + kc q kk (S d)))), some (.int ps), some (.int (nI kk)), some (.int (nI N0)), some (.int (nI (S d)))] [] 0 0 n (mz_u f 162 (aS 200 s))) :
    ∀ m i s, i + m = S d → (∀ j, j < N0 + kc q kk i → vc K (s j)) → mz_X G mk_P 11 false b_Model_sift 9 (some .int) (r_Model_sift 0 0) post (fun _ _ _ => False) 23 [some (.ref 158), some (.int (nI d)), some (.int (nI col)), some (.int (mk_b (z = true))), some (.int (nI (N0 + kc q kk i))), some (.int ps), some (.int (nI kk)), some (.int (nI N0)), some (.int (nI i))] [] 0 0 n (mz_u f 162 (aS 200 s)) := by
  have hK := h.1.2.1
  have e161 := h.2.1.1
  have hsz := MP_sz h hd
  intro m
  induction m with
  | zero =>
    intro i s hi hv
    have : i = S d := by omega
    subst this
    refine mz_go [23, 76] 30 ?_
    simp only [mz_run, ev_0, ev_1, ev_2, ev_3, ev_4, ev_5, ev_6, ev_7, ev_8, ev_9, ev_10, ev_11, ev_12, ev_13, ev_14, ev_15, ev_16, ev_17, ev_18, ev_19, ev_20, ev_21, ev_22, ev_23, ev_24, ev_25, ev_26, ev_27, ev_28, ev_29, ev_30, ev_31, ev_32, ev_33, ev_34, ev_35, ev_36, ev_37, ev_38, ev_39, ev_40, ev_41, ev_42, ev_43, ev_44, ev_45, ev_46, ev_47, ev_48, ev_49, ev_50, ev_51, ev_52, ev_53, ev_54, ev_55, ev_56, ev_57, ev_58, ev_59, ev_60, ev_61, ev_62, ev_63, ev_64, ev_65, ev_66, ev_67, ev_68, ev_69, ev_70, ev_71, ev_72, ev_73, ev_74, ev_75, ev_76, ev_77, ev_78, ev_79, ev_80, ev_81, ev_82, ev_83, mk_lit, mk_fin, mk_cat, mk_fit, mk_nar, mk_fld, mk_cls, mk_ty, mk_isr, List.mem_cons, List.not_mem_nil, or_false, or_true, false_or, true_or, Nat.reduceEqDiff, Nat.reduceAdd, Nat.reduceSub, Nat.reduceLT, Nat.reduceLeDiff, reduceIte, if_true, if_false, List.getElem?_cons_zero, List.getElem?_cons_succ, List.set_cons_zero, List.set_cons_succ, List.length_cons, List.length_nil, mz_s1, mz_s2, mz_cl, true_and, and_true, false_and, and_false, List.append_nil, mk_b0, mk_b1, mk_b2, mk_bn, Value.int.injEq, Option.toList_some, Option.toList_none, List.cons_append, List.nil_append, Classical.not_not, Option.some.injEq, reduceCtorEq, ne_eq, not_true_eq_false, not_false_eq_true, false_implies, true_implies, d_Model_sift, j_Model_sift, nF_11, mz_u_n (show 158 ≠ 162 by decide), mz_u_n (show 161 ≠ 162 by decide), e158, e161, mo, vp_in_nI (show d < 8 by omega) (show 8 < 2 ^ 31 by decide), nI_clamp (show d < 2 ^ 31 by omega), nI_leI (show S d < 2 ^ 31 by omega) (show S d < 2 ^ 31 by omega), Nat.le_refl]
    exact hend s hv
  | succ m ih =>
    intro i s hi hv
    have e158' : (mz_u f 162 (aS 200 s)) 158 = mo t K ln p br u a := (mz_u_n (by decide)).trans e158
    have e159' : (mz_u f 162 (aS 200 s)) 159 = aB 3200 g9 := (mz_u_n (by decide)).trans e159
    have e160' : (mz_u f 162 (aS 200 s)) 160 = aS 1600 g := (mz_u_n (by decide)).trans e160
    obtain ⟨c, hc, ec⟩ := hg d i hd (by omega)
    have hqi : q i = kI g9 z c col := by rw [hq]; show kI g9 z (g (200 * d + i)).toNatClampNeg col = _; rw [ec, nI_clamp (show c < 2 ^ 31 by omega)]
    have mono : ∀ i, i ≤ S d → kc q kk i ≤ kc q kk (S d) := by
      intro i hi
      obtain ⟨w, hw⟩ : ∃ w, S d = i + w := ⟨S d - i, by omega⟩
      rw [hw]
      clear hw
      induction w with
      | zero => exact Nat.le_refl _
      | succ w ih => refine Nat.le_trans ih ?_; show _ ≤ kc q kk (i + w) + _; omega
    refine mz_go [39] 30 ?_
    simp only [mz_run, ev_0, ev_1, ev_2, ev_3, ev_4, ev_5, ev_6, ev_7, ev_8, ev_9, ev_10, ev_11, ev_12, ev_13, ev_14, ev_15, ev_16, ev_17, ev_18, ev_19, ev_20, ev_21, ev_22, ev_23, ev_24, ev_25, ev_26, ev_27, ev_28, ev_29, ev_30, ev_31, ev_32, ev_33, ev_34, ev_35, ev_36, ev_37, ev_38, ev_39, ev_40, ev_41, ev_42, ev_43, ev_44, ev_45, ev_46, ev_47, ev_48, ev_49, ev_50, ev_51, ev_52, ev_53, ev_54, ev_55, ev_56, ev_57, ev_58, ev_59, ev_60, ev_61, ev_62, ev_63, ev_64, ev_65, ev_66, ev_67, ev_68, ev_69, ev_70, ev_71, ev_72, ev_73, ev_74, ev_75, ev_76, ev_77, ev_78, ev_79, ev_80, ev_81, ev_82, ev_83, mk_lit, mk_fin, mk_cat, mk_fit, mk_nar, mk_fld, mk_cls, mk_ty, mk_isr, List.mem_cons, List.not_mem_nil, or_false, or_true, false_or, true_or, Nat.reduceEqDiff, Nat.reduceAdd, Nat.reduceSub, Nat.reduceLT, Nat.reduceLeDiff, reduceIte, if_true, if_false, List.getElem?_cons_zero, List.getElem?_cons_succ, List.set_cons_zero, List.set_cons_succ, List.length_cons, List.length_nil, mz_s1, mz_s2, mz_cl, true_and, and_true, false_and, and_false, List.append_nil, mk_b0, mk_b1, mk_b2, mk_bn, Value.int.injEq, Option.toList_some, Option.toList_none, List.cons_append, List.nil_append, Classical.not_not, Option.some.injEq, reduceCtorEq, ne_eq, not_true_eq_false, not_false_eq_true, false_implies, true_implies, d_Model_sift, j_Model_sift, nF_11, mz_u_n (show 158 ≠ 162 by decide), mz_u_n (show 161 ≠ 162 by decide), e158, e161, mo, vp_in_nI (show d < 8 by omega) (show 8 < 2 ^ 31 by decide), nI_clamp (show d < 2 ^ 31 by omega), nI_leI (show S d < 2 ^ 31 by omega) (show i < 2 ^ 31 by omega), show ¬ S d ≤ i by omega]
    refine mz_callV (by simp only [d_Model_sift, Nat.reduceAdd]) g_11_98 rfl (fun _ _ h => h) (c_Model_cardAtG G n _ e158' e160' hd (show i < 200 by omega)) e158' rfl rfl (by decide) (Nat.le_of_ble_eq_true rfl) rfl ?_; intro v_ n_ f_ h_; obtain ⟨rfl, hn_, hf_⟩ := h_; replace hn_ := hn_.symm; replace hf_ := hf_.symm; subst hn_; subst hf_
    rw [ec]
    refine mz_go [44] 30 ?_
    simp only [mz_run, ev_0, ev_1, ev_2, ev_3, ev_4, ev_5, ev_6, ev_7, ev_8, ev_9, ev_10, ev_11, ev_12, ev_13, ev_14, ev_15, ev_16, ev_17, ev_18, ev_19, ev_20, ev_21, ev_22, ev_23, ev_24, ev_25, ev_26, ev_27, ev_28, ev_29, ev_30, ev_31, ev_32, ev_33, ev_34, ev_35, ev_36, ev_37, ev_38, ev_39, ev_40, ev_41, ev_42, ev_43, ev_44, ev_45, ev_46, ev_47, ev_48, ev_49, ev_50, ev_51, ev_52, ev_53, ev_54, ev_55, ev_56, ev_57, ev_58, ev_59, ev_60, ev_61, ev_62, ev_63, ev_64, ev_65, ev_66, ev_67, ev_68, ev_69, ev_70, ev_71, ev_72, ev_73, ev_74, ev_75, ev_76, ev_77, ev_78, ev_79, ev_80, ev_81, ev_82, ev_83, mk_lit, mk_fin, mk_cat, mk_fit, mk_nar, mk_fld, mk_cls, mk_ty, mk_isr, List.mem_cons, List.not_mem_nil, or_false, or_true, false_or, true_or, Nat.reduceEqDiff, Nat.reduceAdd, Nat.reduceSub, Nat.reduceLT, Nat.reduceLeDiff, reduceIte, if_true, if_false, List.getElem?_cons_zero, List.getElem?_cons_succ, List.set_cons_zero, List.set_cons_succ, List.length_cons, List.length_nil, mz_s1, mz_s2, mz_cl, true_and, and_true, false_and, and_false, List.append_nil, mk_b0, mk_b1, mk_b2, mk_bn, Value.int.injEq, Option.toList_some, Option.toList_none, List.cons_append, List.nil_append, Classical.not_not, Option.some.injEq, reduceCtorEq, ne_eq, not_true_eq_false, not_false_eq_true, false_implies, true_implies, d_Model_sift, j_Model_sift, nF_11]
    refine mz_callV (by simp only [d_Model_sift, Nat.reduceAdd]) g_11_101 rfl (fun _ _ h => h) (c_Model_keyOf G n _ e158' e159' (show c < 200 by omega) hcol z) e158' rfl rfl (by decide) (Nat.le_of_ble_eq_true rfl) rfl ?_; intro v_ n_ f_ h_; obtain ⟨rfl, hn_, hf_⟩ := h_; replace hn_ := hn_.symm; replace hf_ := hf_.symm; subst hn_; subst hf_
    by_cases he : kI g9 z c col = nI kk
    · have ek : kc q kk (i + 1) = kc q kk i + 1 := by show kc q kk i + _ = _; rw [if_pos (hqi.trans he)]
      have hm := mono (i + 1) (by omega)
      rw [ek] at hm
      refine mz_go [62] 30 ?_
      simp only [mz_run, ev_0, ev_1, ev_2, ev_3, ev_4, ev_5, ev_6, ev_7, ev_8, ev_9, ev_10, ev_11, ev_12, ev_13, ev_14, ev_15, ev_16, ev_17, ev_18, ev_19, ev_20, ev_21, ev_22, ev_23, ev_24, ev_25, ev_26, ev_27, ev_28, ev_29, ev_30, ev_31, ev_32, ev_33, ev_34, ev_35, ev_36, ev_37, ev_38, ev_39, ev_40, ev_41, ev_42, ev_43, ev_44, ev_45, ev_46, ev_47, ev_48, ev_49, ev_50, ev_51, ev_52, ev_53, ev_54, ev_55, ev_56, ev_57, ev_58, ev_59, ev_60, ev_61, ev_62, ev_63, ev_64, ev_65, ev_66, ev_67, ev_68, ev_69, ev_70, ev_71, ev_72, ev_73, ev_74, ev_75, ev_76, ev_77, ev_78, ev_79, ev_80, ev_81, ev_82, ev_83, mk_lit, mk_fin, mk_cat, mk_fit, mk_nar, mk_fld, mk_cls, mk_ty, mk_isr, List.mem_cons, List.not_mem_nil, or_false, or_true, false_or, true_or, Nat.reduceEqDiff, Nat.reduceAdd, Nat.reduceSub, Nat.reduceLT, Nat.reduceLeDiff, reduceIte, if_true, if_false, List.getElem?_cons_zero, List.getElem?_cons_succ, List.set_cons_zero, List.set_cons_succ, List.length_cons, List.length_nil, mz_s1, mz_s2, mz_cl, true_and, and_true, false_and, and_false, List.append_nil, mk_b0, mk_b1, mk_b2, mk_bn, Value.int.injEq, Option.toList_some, Option.toList_none, List.cons_append, List.nil_append, Classical.not_not, Option.some.injEq, reduceCtorEq, ne_eq, not_true_eq_false, not_false_eq_true, false_implies, true_implies, d_Model_sift, j_Model_sift, nF_11, eq_true he, mz_u_n (show 158 ≠ 162 by decide), e158, mo]
      refine mz_callV (by simp only [d_Model_sift, Nat.reduceAdd]) g_11_98 rfl (fun _ _ h => h) (c_Model_cardAtG G n _ e158' e160' hd (show i < 200 by omega)) e158' rfl rfl (by decide) (Nat.le_of_ble_eq_true rfl) rfl ?_; intro v_ n_ f_ h_; obtain ⟨rfl, hn_, hf_⟩ := h_; replace hn_ := hn_.symm; replace hf_ := hf_.symm; subst hn_; subst hf_
      rw [ec]
      refine mz_go [23] 30 ?_
      simp only [mz_run, ev_0, ev_1, ev_2, ev_3, ev_4, ev_5, ev_6, ev_7, ev_8, ev_9, ev_10, ev_11, ev_12, ev_13, ev_14, ev_15, ev_16, ev_17, ev_18, ev_19, ev_20, ev_21, ev_22, ev_23, ev_24, ev_25, ev_26, ev_27, ev_28, ev_29, ev_30, ev_31, ev_32, ev_33, ev_34, ev_35, ev_36, ev_37, ev_38, ev_39, ev_40, ev_41, ev_42, ev_43, ev_44, ev_45, ev_46, ev_47, ev_48, ev_49, ev_50, ev_51, ev_52, ev_53, ev_54, ev_55, ev_56, ev_57, ev_58, ev_59, ev_60, ev_61, ev_62, ev_63, ev_64, ev_65, ev_66, ev_67, ev_68, ev_69, ev_70, ev_71, ev_72, ev_73, ev_74, ev_75, ev_76, ev_77, ev_78, ev_79, ev_80, ev_81, ev_82, ev_83, mk_lit, mk_fin, mk_cat, mk_fit, mk_nar, mk_fld, mk_cls, mk_ty, mk_isr, List.mem_cons, List.not_mem_nil, or_false, or_true, false_or, true_or, Nat.reduceEqDiff, Nat.reduceAdd, Nat.reduceSub, Nat.reduceLT, Nat.reduceLeDiff, reduceIte, if_true, if_false, List.getElem?_cons_zero, List.getElem?_cons_succ, List.set_cons_zero, List.set_cons_succ, List.length_cons, List.length_nil, mz_s1, mz_s2, mz_cl, true_and, and_true, false_and, and_false, List.append_nil, mk_b0, mk_b1, mk_b2, mk_bn, Value.int.injEq, Option.toList_some, Option.toList_none, List.cons_append, List.nil_append, Classical.not_not, Option.some.injEq, reduceCtorEq, ne_eq, not_true_eq_false, not_false_eq_true, false_implies, true_implies, d_Model_sift, j_Model_sift, nF_11, mz_u_s, mz_uu, vp_in_nI (show N0 + kc q kk i < 200 by omega) (show 200 < 2 ^ 31 by decide), nI_clamp (show N0 + kc q kk i < 2 ^ 31 by omega), n2s c (by omega), n2sn c (by omega), nI_add]
      have := ih (i + 1) (upd s (N0 + kc q kk i) (nI c)) (by omega) (fun j hj => by
        rw [ek] at hj
        by_cases e : j = N0 + kc q kk i
        · subst e; exact ⟨c, hc, pk_us⟩
        · rw [pk_un e]; exact hv j (by omega))
      rw [ek] at this
      exact this
    · have ek : kc q kk (i + 1) = kc q kk i := by show kc q kk i + _ = _; rw [if_neg (fun z => he (hqi.symm.trans z))]; rfl
      refine mz_go [23] 30 ?_
      simp only [mz_run, ev_0, ev_1, ev_2, ev_3, ev_4, ev_5, ev_6, ev_7, ev_8, ev_9, ev_10, ev_11, ev_12, ev_13, ev_14, ev_15, ev_16, ev_17, ev_18, ev_19, ev_20, ev_21, ev_22, ev_23, ev_24, ev_25, ev_26, ev_27, ev_28, ev_29, ev_30, ev_31, ev_32, ev_33, ev_34, ev_35, ev_36, ev_37, ev_38, ev_39, ev_40, ev_41, ev_42, ev_43, ev_44, ev_45, ev_46, ev_47, ev_48, ev_49, ev_50, ev_51, ev_52, ev_53, ev_54, ev_55, ev_56, ev_57, ev_58, ev_59, ev_60, ev_61, ev_62, ev_63, ev_64, ev_65, ev_66, ev_67, ev_68, ev_69, ev_70, ev_71, ev_72, ev_73, ev_74, ev_75, ev_76, ev_77, ev_78, ev_79, ev_80, ev_81, ev_82, ev_83, mk_lit, mk_fin, mk_cat, mk_fit, mk_nar, mk_fld, mk_cls, mk_ty, mk_isr, List.mem_cons, List.not_mem_nil, or_false, or_true, false_or, true_or, Nat.reduceEqDiff, Nat.reduceAdd, Nat.reduceSub, Nat.reduceLT, Nat.reduceLeDiff, reduceIte, if_true, if_false, List.getElem?_cons_zero, List.getElem?_cons_succ, List.set_cons_zero, List.set_cons_succ, List.length_cons, List.length_nil, mz_s1, mz_s2, mz_cl, true_and, and_true, false_and, and_false, List.append_nil, mk_b0, mk_b1, mk_b2, mk_bn, Value.int.injEq, Option.toList_some, Option.toList_none, List.cons_append, List.nil_append, Classical.not_not, Option.some.injEq, reduceCtorEq, ne_eq, not_true_eq_false, not_false_eq_true, false_implies, true_implies, d_Model_sift, j_Model_sift, nF_11, eq_false he, nI_add]
      have := ih (i + 1) s (by omega) (fun j hj => hv j (by rw [ek] at hj; exact hj))
      rw [ek] at this
      exact this
theorem l_Model_sift1 (G : mz_G) (n : Nat) (f : mz_H) {K ln d col : Nat} {t p br u a : Int32} {S W : Nat → Nat} {g g9 : Nat → Int32} (z : Bool) (q : Nat → Int32) (hq : q = fun i => kI g9 z (g (200 * d + i)).toNatClampNeg col) (e158 : f 158 = mo t K ln p br u a) (h : MP f K ln S W) (e159 : f 159 = aB 3200 g9) (e160 : f 160 = aS 1600 g) (hg : ∀ d i, d < 8 → i < S d → ∃ c, c < K ∧ g (200 * d + i) = nI c) (hd : d < 8) (hcol : col < 16) :
    ∀ m kk s ps w7 w8, kk + m = 11 → (∀ j, j < kb q (S d) kk → vc K (s j)) → mz_X G mk_P 11 false b_Model_sift 9 (some .int) (r_Model_sift 0 0) (fun v n' f' => (∃ r, v = some (.int r)) ∧ n' = n ∧ MP f' K ln S W ∧ FrC f f') (fun _ _ _ => False) 9 [some (.ref 158), some (.int (nI d)), some (.int (nI col)), some (.int (mk_b (z = true))), some (.int (nI (kb q (S d) kk))), some (.int ps), some (.int (nI kk)), w7, w8] [] 0 0 n (mz_u f 162 (aS 200 s)) := by
  have hK := h.1.2.1
  have hsz := MP_sz h hd
  have kble := fun r hr => kb_le q r hr (S d)
  intro m
  induction m with
  | zero =>
    intro kk s ps w7 w8 hk hv
    have : kk = 11 := by omega
    subst this
    have := kble 11 (by omega)
    refine mz_go [9, 102] 30 ?_
    simp only [mz_run, ev_0, ev_1, ev_2, ev_3, ev_4, ev_5, ev_6, ev_7, ev_8, ev_9, ev_10, ev_11, ev_12, ev_13, ev_14, ev_15, ev_16, ev_17, ev_18, ev_19, ev_20, ev_21, ev_22, ev_23, ev_24, ev_25, ev_26, ev_27, ev_28, ev_29, ev_30, ev_31, ev_32, ev_33, ev_34, ev_35, ev_36, ev_37, ev_38, ev_39, ev_40, ev_41, ev_42, ev_43, ev_44, ev_45, ev_46, ev_47, ev_48, ev_49, ev_50, ev_51, ev_52, ev_53, ev_54, ev_55, ev_56, ev_57, ev_58, ev_59, ev_60, ev_61, ev_62, ev_63, ev_64, ev_65, ev_66, ev_67, ev_68, ev_69, ev_70, ev_71, ev_72, ev_73, ev_74, ev_75, ev_76, ev_77, ev_78, ev_79, ev_80, ev_81, ev_82, ev_83, mk_lit, mk_fin, mk_cat, mk_fit, mk_nar, mk_fld, mk_cls, mk_ty, mk_isr, List.mem_cons, List.not_mem_nil, or_false, or_true, false_or, true_or, Nat.reduceEqDiff, Nat.reduceAdd, Nat.reduceSub, Nat.reduceLT, Nat.reduceLeDiff, reduceIte, if_true, if_false, List.getElem?_cons_zero, List.getElem?_cons_succ, List.set_cons_zero, List.set_cons_succ, List.length_cons, List.length_nil, mz_s1, mz_s2, mz_cl, true_and, and_true, false_and, and_false, List.append_nil, mk_b0, mk_b1, mk_b2, mk_bn, Value.int.injEq, Option.toList_some, Option.toList_none, List.cons_append, List.nil_append, Classical.not_not, Option.some.injEq, reduceCtorEq, ne_eq, not_true_eq_false, not_false_eq_true, false_implies, true_implies, d_Model_sift, j_Model_sift, nF_11, nI_leI (show 11 < 2 ^ 31 by omega) (show 11 < 2 ^ 31 by omega), Nat.le_refl]
    have e160' : (mz_u f 162 (aS 200 s)) 160 = aS 1600 g := (mz_u_n (by decide)).trans e160
    have w := l_Model_sift3 G n (mz_u f 162 (aS 200 s)) (w2 := some (.int (nI col))) (w3 := some (.int (mk_b (z = true)))) (w7 := w7) (w8 := w8) (ps := ps) ((mz_u_n (by decide)).trans e158) (MP_162 h s) (mz_u_s _ _ _) hv (show kb q (S d) 11 ≤ 200 by omega) hd (kb q (S d) 11) 0 g (by omega) hg
    rw [mz_ui e160'] at w
    refine mz_mono ?_ w
    rintro v n' f' ⟨q1, q2, q3, q4⟩
    exact ⟨q1, q2, q3, FrC_tr (FrC_1 f (by decide) _) q4⟩
  | succ m ih =>
    intro kk s ps w7 w8 hk hv
    have hk1 := kble (kk + 1) (by omega)
    have ekb : kb q (S d) (kk + 1) = kb q (S d) kk + kc q kk (S d) := rfl
    refine mz_go [23] 30 ?_
    simp only [mz_run, ev_0, ev_1, ev_2, ev_3, ev_4, ev_5, ev_6, ev_7, ev_8, ev_9, ev_10, ev_11, ev_12, ev_13, ev_14, ev_15, ev_16, ev_17, ev_18, ev_19, ev_20, ev_21, ev_22, ev_23, ev_24, ev_25, ev_26, ev_27, ev_28, ev_29, ev_30, ev_31, ev_32, ev_33, ev_34, ev_35, ev_36, ev_37, ev_38, ev_39, ev_40, ev_41, ev_42, ev_43, ev_44, ev_45, ev_46, ev_47, ev_48, ev_49, ev_50, ev_51, ev_52, ev_53, ev_54, ev_55, ev_56, ev_57, ev_58, ev_59, ev_60, ev_61, ev_62, ev_63, ev_64, ev_65, ev_66, ev_67, ev_68, ev_69, ev_70, ev_71, ev_72, ev_73, ev_74, ev_75, ev_76, ev_77, ev_78, ev_79, ev_80, ev_81, ev_82, ev_83, mk_lit, mk_fin, mk_cat, mk_fit, mk_nar, mk_fld, mk_cls, mk_ty, mk_isr, List.mem_cons, List.not_mem_nil, or_false, or_true, false_or, true_or, Nat.reduceEqDiff, Nat.reduceAdd, Nat.reduceSub, Nat.reduceLT, Nat.reduceLeDiff, reduceIte, if_true, if_false, List.getElem?_cons_zero, List.getElem?_cons_succ, List.set_cons_zero, List.set_cons_succ, List.length_cons, List.length_nil, mz_s1, mz_s2, mz_cl, true_and, and_true, false_and, and_false, List.append_nil, mk_b0, mk_b1, mk_b2, mk_bn, Value.int.injEq, Option.toList_some, Option.toList_none, List.cons_append, List.nil_append, Classical.not_not, Option.some.injEq, reduceCtorEq, ne_eq, not_true_eq_false, not_false_eq_true, false_implies, true_implies, d_Model_sift, j_Model_sift, nF_11, nI_leI (show 11 < 2 ^ 31 by omega) (show kk < 2 ^ 31 by omega), show ¬ 11 ≤ kk by omega]
    refine l_Model_sift2 G n f (N0 := kb q (S d) kk) (kk := kk) (ps := ps) z _ q hq e158 h e159 e160 hg hd hcol (by omega) (by rw [← ekb]; omega) ?_ (S d) 0 s (by omega) hv
    intro s' hv'
    rw [← ekb] at hv' ⊢
    refine mz_go [9] 30 ?_
    simp only [mz_run, ev_0, ev_1, ev_2, ev_3, ev_4, ev_5, ev_6, ev_7, ev_8, ev_9, ev_10, ev_11, ev_12, ev_13, ev_14, ev_15, ev_16, ev_17, ev_18, ev_19, ev_20, ev_21, ev_22, ev_23, ev_24, ev_25, ev_26, ev_27, ev_28, ev_29, ev_30, ev_31, ev_32, ev_33, ev_34, ev_35, ev_36, ev_37, ev_38, ev_39, ev_40, ev_41, ev_42, ev_43, ev_44, ev_45, ev_46, ev_47, ev_48, ev_49, ev_50, ev_51, ev_52, ev_53, ev_54, ev_55, ev_56, ev_57, ev_58, ev_59, ev_60, ev_61, ev_62, ev_63, ev_64, ev_65, ev_66, ev_67, ev_68, ev_69, ev_70, ev_71, ev_72, ev_73, ev_74, ev_75, ev_76, ev_77, ev_78, ev_79, ev_80, ev_81, ev_82, ev_83, mk_lit, mk_fin, mk_cat, mk_fit, mk_nar, mk_fld, mk_cls, mk_ty, mk_isr, List.mem_cons, List.not_mem_nil, or_false, or_true, false_or, true_or, Nat.reduceEqDiff, Nat.reduceAdd, Nat.reduceSub, Nat.reduceLT, Nat.reduceLeDiff, reduceIte, if_true, if_false, List.getElem?_cons_zero, List.getElem?_cons_succ, List.set_cons_zero, List.set_cons_succ, List.length_cons, List.length_nil, mz_s1, mz_s2, mz_cl, true_and, and_true, false_and, and_false, List.append_nil, mk_b0, mk_b1, mk_b2, mk_bn, Value.int.injEq, Option.toList_some, Option.toList_none, List.cons_append, List.nil_append, Classical.not_not, Option.some.injEq, reduceCtorEq, ne_eq, not_true_eq_false, not_false_eq_true, false_implies, true_implies, d_Model_sift, j_Model_sift, nF_11, nI_add]
    repeat' first | exact ih (kk + 1) _ _ _ _ (by omega) hv' | refine ⟨?_, ?_⟩ | intro _
theorem c_Model_sift (G : mz_G) (n : Nat) (f : mz_H) {K ln d col : Nat} {S W : Nat → Nat} (z : Bool) (h : MP f K ln S W) (hd : d < 8) (hcol : col < 16) : mz_Ct G mk_P y_Model_sift b_Model_sift 9 (some .int) (r_Model_sift 0 0) [.ref 158, .int (nI d), .int (nI col), .int (mk_b (z = true))] n f (fun v n' f' => (∃ r, v = some (.int r)) ∧ n' = n ∧ MP f' K ln S W ∧ FrC f f') := by
  obtain ⟨t, p, br, u, a, e158⟩ := h.1.1
  obtain ⟨g9, e159⟩ := h.2.2.2.1
  obtain ⟨s, e162⟩ := h.2.2.2.2.1
  obtain ⟨g, e160, hg⟩ := h.2.1.2.2
  refine mk_Ct 11 false [some (.ref 158), some (.int (nI d)), some (.int (nI col)), some (.int (mk_b (z = true))), none, none, none, none, none] (by decide) rfl (by decide) (Nat.le_of_ble_eq_true rfl) rfl ?_
  refine mz_go [9] 30 ?_
  simp only [mz_run, ev_0, ev_1, ev_2, ev_3, ev_4, ev_5, ev_6, ev_7, ev_8, ev_9, ev_10, ev_11, ev_12, ev_13, ev_14, ev_15, ev_16, ev_17, ev_18, ev_19, ev_20, ev_21, ev_22, ev_23, ev_24, ev_25, ev_26, ev_27, ev_28, ev_29, ev_30, ev_31, ev_32, ev_33, ev_34, ev_35, ev_36, ev_37, ev_38, ev_39, ev_40, ev_41, ev_42, ev_43, ev_44, ev_45, ev_46, ev_47, ev_48, ev_49, ev_50, ev_51, ev_52, ev_53, ev_54, ev_55, ev_56, ev_57, ev_58, ev_59, ev_60, ev_61, ev_62, ev_63, ev_64, ev_65, ev_66, ev_67, ev_68, ev_69, ev_70, ev_71, ev_72, ev_73, ev_74, ev_75, ev_76, ev_77, ev_78, ev_79, ev_80, ev_81, ev_82, ev_83, mk_lit, mk_fin, mk_cat, mk_fit, mk_nar, mk_fld, mk_cls, mk_ty, mk_isr, List.mem_cons, List.not_mem_nil, or_false, or_true, false_or, true_or, Nat.reduceEqDiff, Nat.reduceAdd, Nat.reduceSub, Nat.reduceLT, Nat.reduceLeDiff, reduceIte, if_true, if_false, List.getElem?_cons_zero, List.getElem?_cons_succ, List.set_cons_zero, List.set_cons_succ, List.length_cons, List.length_nil, mz_s1, mz_s2, mz_cl, true_and, and_true, false_and, and_false, List.append_nil, mk_b0, mk_b1, mk_b2, mk_bn, Value.int.injEq, Option.toList_some, Option.toList_none, List.cons_append, List.nil_append, Classical.not_not, Option.some.injEq, reduceCtorEq, ne_eq, not_true_eq_false, not_false_eq_true, false_implies, true_implies, d_Model_sift, j_Model_sift, nF_11]
  have := l_Model_sift1 G n f z _ rfl e158 h e159 e160 hg hd hcol 11 0 s (nI 0) none none rfl (fun j hj => absurd hj (by simp [kb]))
  rw [mz_ui e162] at this
  exact this
