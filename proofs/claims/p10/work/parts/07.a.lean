/-- the sorter's cells and a deck's array, the rest as it was -/
def sH (f : mz_H) (a : Nat) (ps : Int32) (gp : Nat → Int32) (T g : Nat → Option Nat) : mz_H := mz_u (mz_u (mz_u (mz_u f 5 (.inr (9, [.ref 6, .ref 7, .int ps]))) 6 (aI 11 gp)) 7 (aQ 6 200 T)) a (aQ 6 200 g)
theorem sH_sH (f : mz_H) {a : Nat} {ps ps' : Int32} {gp gp' : Nat → Int32} {T g T' g' : Nat → Option Nat} : sH (sH f a ps gp T g) a ps' gp' T' g' = sH f a ps' gp' T' g' := by
  funext j
  unfold sH mz_u
  by_cases h1 : j = a
  · simp [h1]
  · by_cases h2 : j = 7
    · simp [h1, h2]
    · by_cases h3 : j = 6
      · simp [h1, h2, h3]
      · by_cases h4 : j = 5
        · simp [h1, h2, h3, h4]
        · simp [h1, h2, h3, h4]
theorem sH_id {f : mz_H} {a : Nat} {ps : Int32} {gp : Nat → Int32} {T g : Nat → Option Nat} (h5 : f 5 = .inr (9, [.ref 6, .ref 7, .int ps])) (h6 : f 6 = aI 11 gp) (h7 : f 7 = aQ 6 200 T) (ha : f a = aQ 6 200 g) : sH f a ps gp T g = f := by
  unfold sH
  rw [mz_ui h5, mz_ui h6, mz_ui h7, mz_ui ha]
theorem l_Sorter_sortOn (G : mz_G) (X : mz_E) (n : Nat) (f : mz_H) {d a sz fr to K : Nat} {s : Nat → Nat → Nat} {ps0 : Int32} {c0 : Nat → Nat} (h1 : f d = .inr (4, [.ref a, .int (nI sz)])) (hd : d < 172) (ha : a < 172) (ha5 : a ≠ 5) (ha6 : a ≠ 6) (ha7 : a ≠ 7) (hda : d ≠ a) (hd5 : d ≠ 5) (hd6 : d ≠ 6) (hd7 : d ≠ 7) (hs : sz ≤ 200) (hC : Cd f K s) (hc0 : ∀ i, i < sz → c0 i < K) (hft : fr ≤ to) (ht : to < 16) :
    ∀ m col N gp T g c π, (col + 1 = fr + m ∧ col ≤ to) → N + sm (wpN s c0 sz) (col + 1) = sm (wpN s c0 sz) (to + 1) → Ps g sz c K → (∀ r, r < sz → c r = c0 (π r)) → enu (fun i => keyF (s (c0 i)) (col + 1) (to - col)) sz π → mz_X G X 9 false b_Sorter_sortOn 6 (some .int) (r_Sorter_sortOn 0 0) (fun v n' f' => ∃ N gp T g c π, N + sm (wpN s c0 sz) fr = sm (wpN s c0 sz) (to + 1) ∧ v = some (.int (nI N)) ∧ n' = n ∧ f' = sH f a (ps0 + nI N) gp T g ∧ Ps g sz c K ∧ (∀ r, r < sz → c r = c0 (π r)) ∧ enu (fun i => keyC s fr to (c0 i)) sz π) (fun _ _ _ => False) 20 [some (.ref 5), some (.ref d), some (.int (nI fr)), some (.int (nI to)), some (.int ps0), some (.int (nI col))] [] 0 0 n (sH f a (ps0 + nI N) gp T g) := by
  have key : ∀ (ps : Int32) (gp : Nat → Int32) (T g : Nat → Option Nat), (sH f a ps gp T g) 5 = .inr (9, [.ref 6, .ref 7, .int ps]) ∧ (sH f a ps gp T g) d = .inr (4, [.ref a, .int (nI sz)]) ∧ (sH f a ps gp T g) a = aQ 6 200 g ∧ (sH f a ps gp T g) 6 = aI 11 gp ∧ (sH f a ps gp T g) 7 = aQ 6 200 T ∧ Cd (sH f a ps gp T g) K s := by
    intro ps gp T g
    unfold sH
    refine ⟨?_, ?_, ?_, ?_, ?_, ?_⟩
    · rw [mz_u_n (Ne.symm ha5), mz_u_n (by decide), mz_u_n (by decide), mz_u_s]
    · rw [mz_u_n hda, mz_u_n hd7, mz_u_n hd6, mz_u_n hd5]; exact h1
    · rw [mz_u_s]
    · rw [mz_u_n (Ne.symm ha6), mz_u_n (by decide), mz_u_s]
    · rw [mz_u_n (Ne.symm ha7), mz_u_s]
    · exact Cd_u (Cd_u (Cd_u (Cd_u hC (by decide) _) (by decide) _) (by decide) _) ha _
  have hsg : ∀ i, i < sz → ∀ j, j < 16 → sg (s (c0 i) j) := fun i hi => (hC _ (hc0 i hi)).2.2
  have hstep : ∀ (N : Nat) (gp : Nat → Int32) (T g : Nat → Option Nat) (c π : Nat → Nat) (k : Nat → Nat) (M col : Nat) (z : Bool), Ps g sz c K → (∀ r, r < sz → c r = c0 (π r)) → enu k sz π → (∀ i, i < sz → k i < M) → col < 16 → mz_Ct G X y_Sorter_passOnce b_Sorter_passOnce 7 (some .int) (r_Sorter_passOnce 0 0) [.ref 5, .ref d, .int (nI col), .int (mk_b (z = true))] n (sH f a (ps0 + nI N) gp T g) (fun v n' f' => ∃ r gp T g c π, v = some (.int r) ∧ n' = n ∧ f' = sH f a (ps0 + nI (N + 1)) gp T g ∧ Ps g sz c K ∧ (∀ r, r < sz → c r = c0 (π r)) ∧ enu (fun i => pk s col z (c0 i) * M + k i) sz π) := by
    intro N gp T g c π k M col z hP hcp he hk hc ad sz' hwf hok
    obtain ⟨k5, kd, ka, k6, k7, kC⟩ := key (ps0 + nI N) gp T g
    have hct := c_Sorter_passOnce G X n _ z k5 kd ka k6 k7 hd ha ha7 hs kC hP hc ad sz' hwf hok
    refine mz_Mono hct ?_
    rintro v n' f' ⟨q, hq, rfl, rfl, rfl⟩
    have hqlt : ∀ j, j < sz → q j < 11 := fun j hj => by rw [hq]; exact pok_lt ((hC _ (hP j hj).2).2.2 col hc)
    obtain ⟨c', hc', e1⟩ := pord_ex (T := T) hP hqlt
    obtain ⟨π', e2⟩ := pass_pi (π := π) hqlt
    have e3 : ps0 + nI N + nI 1 = ps0 + nI (N + 1) := by rw [Int32.add_assoc, nI_add]
    refine ⟨_, _, _, _, c', π', rfl, rfl, by rw [← e3]; exact sH_sH f, hc', fun r hr => ?_, enu_pass (P := 11) he hk (fun r hr => by rw [hq]; show pk s col z (c r) = _; rw [hcp r hr]) hqlt e2⟩
    obtain ⟨j, hj, ej⟩ := posP_onto hqlt hr
    rw [← ej, e1 j hj, e2 j hj]
    exact hcp j hj
  intro m
  induction m with
  | zero =>
    intro col N gp T g c π hcol hN hP hcp he
    obtain ⟨k5, kd, ka, k6, k7, kC⟩ := key (ps0 + nI N) gp T g
    refine mz_go [20] 12 ?_
    simp only [mz_r0, ev_0, ev_1, ev_2, ev_3, ev_4, ev_5, ev_6, ev_7, ev_8, ev_9, ev_10, ev_11, ev_12, ev_13, ev_14, ev_15, ev_16, ev_17, ev_18, ev_19, ev_20, ev_21, ev_22, ev_23, ev_24, ev_25, ev_26, ev_27, ev_28, ev_29, ev_30, ev_31, ev_32, ev_33, ev_34, ev_35, ev_36, ev_37, ev_38, ev_39, ev_40, ev_41, ev_42, ev_43, ev_44, ev_45, ev_46, ev_47, ev_48, ev_49, ev_50, ev_51, ev_52, ev_53, ev_54, ev_55, ev_56, ev_57, ev_58, ev_59, ev_60, ev_61, ev_62, ev_63, ev_64, ev_65, ev_66, ev_67, ev_68, ev_69, ev_70, ev_71, ev_72, ev_73, ev_74, ev_75, ev_76, ev_77, ev_78, ev_79, ev_80, ev_81, ev_82, ev_83, mk_lit, mk_fin, mk_cat, mk_fit, mk_nar, mk_fld, mk_cls, mk_ty, mk_isr, List.mem_cons, List.not_mem_nil, or_false, or_true, false_or, true_or, Nat.reduceEqDiff, Nat.reduceAdd, Nat.reduceSub, Nat.reduceLT, Nat.reduceLeDiff, ↓reduceIte, if_true, if_false, List.getElem?_cons_zero, List.getElem?_cons_succ, List.set_cons_zero, List.set_cons_succ, List.length_cons, List.length_nil, mz_s1, mz_s2, mz_cl, true_and, and_true, false_and, and_false, List.append_nil, mk_b0, mk_b1, mk_b2, mk_bn, Value.int.injEq, Option.toList_some, Option.toList_none, List.cons_append, List.nil_append, Classical.not_not, Option.some.injEq, reduceCtorEq, ne_eq, not_true_eq_false, not_false_eq_true, false_implies, true_implies, mz_rl d_Sorter_sortOn_20, mz_rl d_Sorter_sortOn_22, mz_rl d_Sorter_sortOn_23, mz_rl d_Sorter_sortOn_26, mz_rl d_Sorter_sortOn_27, mz_rl d_Sorter_sortOn_28, mz_rl d_Sorter_sortOn_30, mz_rl d_Sorter_sortOn_31, mz_rl d_Sorter_sortOn_59, mz_rl d_Sorter_sortOn_60, mz_rl d_Sorter_sortOn_63, mz_rl d_Sorter_sortOn_65, mz_rl d_Sorter_sortOn_66, j_Sorter_sortOn_23, nF_9, nI_ltI (show col < 2 ^ 31 by omega) (show fr < 2 ^ 31 by omega), show col < fr by omega, k5]
    have ef : col + 1 = fr := by omega
    rw [ef] at hN he
    rw [show to - col = to + 1 - fr by omega] at he
    exact ⟨N, gp, T, g, c, π, hN, a32 _ _, rfl, hP, hcp, he⟩
  | succ m ih =>
    intro col N gp T g c π hcol hN hP hcp he
    obtain ⟨k5, kd, ka, k6, k7, kC⟩ := key (ps0 + nI N) gp T g
    have eF : mk_b (false = true) = nI 0 := by decide
    have eT : mk_b (true = true) = nI 1 := by decide
    have es : sm (wpN s c0 sz) (col + 1) = sm (wpN s c0 sz) col + wpN s c0 sz col := rfl
    have fin : ∀ N gp T g c π, N + sm (wpN s c0 sz) col = sm (wpN s c0 sz) (to + 1) → Ps g sz c K → (∀ r, r < sz → c r = c0 (π r)) → enu (fun i => keyF (s (c0 i)) col (to - col + 1)) sz π → mz_X G X 9 false b_Sorter_sortOn 6 (some .int) (r_Sorter_sortOn 0 0) (fun v n' f' => ∃ N gp T g c π, N + sm (wpN s c0 sz) fr = sm (wpN s c0 sz) (to + 1) ∧ v = some (.int (nI N)) ∧ n' = n ∧ f' = sH f a (ps0 + nI N) gp T g ∧ Ps g sz c K ∧ (∀ r, r < sz → c r = c0 (π r)) ∧ enu (fun i => keyC s fr to (c0 i)) sz π) (fun _ _ _ => False) 53 [some (.ref 5), some (.ref d), some (.int (nI fr)), some (.int (nI to)), some (.int ps0), some (.int (nI col))] [] 0 0 n (sH f a (ps0 + nI N) gp T g) := by
      intro N gp T g c π hN hP hcp he
      by_cases hc9 : col = 0
      · subst hc9
        obtain ⟨k5, kd, ka, k6, k7, kC⟩ := key (ps0 + nI N) gp T g
        refine mz_go [] 12 ?_
        simp only [mz_r0, ev_0, ev_1, ev_2, ev_3, ev_4, ev_5, ev_6, ev_7, ev_8, ev_9, ev_10, ev_11, ev_12, ev_13, ev_14, ev_15, ev_16, ev_17, ev_18, ev_19, ev_20, ev_21, ev_22, ev_23, ev_24, ev_25, ev_26, ev_27, ev_28, ev_29, ev_30, ev_31, ev_32, ev_33, ev_34, ev_35, ev_36, ev_37, ev_38, ev_39, ev_40, ev_41, ev_42, ev_43, ev_44, ev_45, ev_46, ev_47, ev_48, ev_49, ev_50, ev_51, ev_52, ev_53, ev_54, ev_55, ev_56, ev_57, ev_58, ev_59, ev_60, ev_61, ev_62, ev_63, ev_64, ev_65, ev_66, ev_67, ev_68, ev_69, ev_70, ev_71, ev_72, ev_73, ev_74, ev_75, ev_76, ev_77, ev_78, ev_79, ev_80, ev_81, ev_82, ev_83, mk_lit, mk_fin, mk_cat, mk_fit, mk_nar, mk_fld, mk_cls, mk_ty, mk_isr, List.mem_cons, List.not_mem_nil, or_false, or_true, false_or, true_or, Nat.reduceEqDiff, Nat.reduceAdd, Nat.reduceSub, Nat.reduceLT, Nat.reduceLeDiff, ↓reduceIte, if_true, if_false, List.getElem?_cons_zero, List.getElem?_cons_succ, List.set_cons_zero, List.set_cons_succ, List.length_cons, List.length_nil, mz_s1, mz_s2, mz_cl, true_and, and_true, false_and, and_false, List.append_nil, mk_b0, mk_b1, mk_b2, mk_bn, Value.int.injEq, Option.toList_some, Option.toList_none, List.cons_append, List.nil_append, Classical.not_not, Option.some.injEq, reduceCtorEq, ne_eq, not_true_eq_false, not_false_eq_true, false_implies, true_implies, mz_rl d_Sorter_sortOn_20, mz_rl d_Sorter_sortOn_22, mz_rl d_Sorter_sortOn_23, mz_rl d_Sorter_sortOn_26, mz_rl d_Sorter_sortOn_27, mz_rl d_Sorter_sortOn_28, mz_rl d_Sorter_sortOn_30, mz_rl d_Sorter_sortOn_31, mz_rl d_Sorter_sortOn_53, mz_rl d_Sorter_sortOn_56, mz_rl d_Sorter_sortOn_59, mz_rl d_Sorter_sortOn_60, mz_rl d_Sorter_sortOn_63, mz_rl d_Sorter_sortOn_65, mz_rl d_Sorter_sortOn_66, j_Sorter_sortOn_23, j_Sorter_sortOn_56, nF_9, mk_lt, mk_ti, mk_nti (show fr < 2 ^ 31 by omega), show (nI 0 + (-1)).toInt = -1 by decide, show ((-1 : Int) < (fr : Int)) = True by simp; omega, k5]
        have ef : fr = 0 := by omega
        subst ef
        exact ⟨N, gp, T, g, c, π, hN, a32 _ _, rfl, hP, hcp, he⟩
      · have em : nI col + (-1) = nI (col - 1) := by
          obtain ⟨k, rfl⟩ : ∃ k, col = k + 1 := ⟨col - 1, by omega⟩
          rw [pk_m1]; rfl
        refine mz_go [20] 12 ?_
        simp only [mz_r0, ev_0, ev_1, ev_2, ev_3, ev_4, ev_5, ev_6, ev_7, ev_8, ev_9, ev_10, ev_11, ev_12, ev_13, ev_14, ev_15, ev_16, ev_17, ev_18, ev_19, ev_20, ev_21, ev_22, ev_23, ev_24, ev_25, ev_26, ev_27, ev_28, ev_29, ev_30, ev_31, ev_32, ev_33, ev_34, ev_35, ev_36, ev_37, ev_38, ev_39, ev_40, ev_41, ev_42, ev_43, ev_44, ev_45, ev_46, ev_47, ev_48, ev_49, ev_50, ev_51, ev_52, ev_53, ev_54, ev_55, ev_56, ev_57, ev_58, ev_59, ev_60, ev_61, ev_62, ev_63, ev_64, ev_65, ev_66, ev_67, ev_68, ev_69, ev_70, ev_71, ev_72, ev_73, ev_74, ev_75, ev_76, ev_77, ev_78, ev_79, ev_80, ev_81, ev_82, ev_83, mk_lit, mk_fin, mk_cat, mk_fit, mk_nar, mk_fld, mk_cls, mk_ty, mk_isr, List.mem_cons, List.not_mem_nil, or_false, or_true, false_or, true_or, Nat.reduceEqDiff, Nat.reduceAdd, Nat.reduceSub, Nat.reduceLT, Nat.reduceLeDiff, ↓reduceIte, if_true, if_false, List.getElem?_cons_zero, List.getElem?_cons_succ, List.set_cons_zero, List.set_cons_succ, List.length_cons, List.length_nil, mz_s1, mz_s2, mz_cl, true_and, and_true, false_and, and_false, List.append_nil, mk_b0, mk_b1, mk_b2, mk_bn, Value.int.injEq, Option.toList_some, Option.toList_none, List.cons_append, List.nil_append, Classical.not_not, Option.some.injEq, reduceCtorEq, ne_eq, not_true_eq_false, not_false_eq_true, false_implies, true_implies, mz_rl d_Sorter_sortOn_53, mz_rl d_Sorter_sortOn_56, j_Sorter_sortOn_56, nF_9, em]
        refine ih (col - 1) N gp T g c π (by omega) (by rw [show col - 1 + 1 = col by omega]; exact hN) hP hcp ?_
        rw [show col - 1 + 1 = col by omega, show to - (col - 1) = to - col + 1 by omega]
        exact he
    refine mz_go [31] 12 ?_
    simp only [mz_r0, ev_0, ev_1, ev_2, ev_3, ev_4, ev_5, ev_6, ev_7, ev_8, ev_9, ev_10, ev_11, ev_12, ev_13, ev_14, ev_15, ev_16, ev_17, ev_18, ev_19, ev_20, ev_21, ev_22, ev_23, ev_24, ev_25, ev_26, ev_27, ev_28, ev_29, ev_30, ev_31, ev_32, ev_33, ev_34, ev_35, ev_36, ev_37, ev_38, ev_39, ev_40, ev_41, ev_42, ev_43, ev_44, ev_45, ev_46, ev_47, ev_48, ev_49, ev_50, ev_51, ev_52, ev_53, ev_54, ev_55, ev_56, ev_57, ev_58, ev_59, ev_60, ev_61, ev_62, ev_63, ev_64, ev_65, ev_66, ev_67, ev_68, ev_69, ev_70, ev_71, ev_72, ev_73, ev_74, ev_75, ev_76, ev_77, ev_78, ev_79, ev_80, ev_81, ev_82, ev_83, mk_lit, mk_fin, mk_cat, mk_fit, mk_nar, mk_fld, mk_cls, mk_ty, mk_isr, List.mem_cons, List.not_mem_nil, or_false, or_true, false_or, true_or, Nat.reduceEqDiff, Nat.reduceAdd, Nat.reduceSub, Nat.reduceLT, Nat.reduceLeDiff, ↓reduceIte, if_true, if_false, List.getElem?_cons_zero, List.getElem?_cons_succ, List.set_cons_zero, List.set_cons_succ, List.length_cons, List.length_nil, mz_s1, mz_s2, mz_cl, true_and, and_true, false_and, and_false, List.append_nil, mk_b0, mk_b1, mk_b2, mk_bn, Value.int.injEq, Option.toList_some, Option.toList_none, List.cons_append, List.nil_append, Classical.not_not, Option.some.injEq, reduceCtorEq, ne_eq, not_true_eq_false, not_false_eq_true, false_implies, true_implies, mz_rl d_Sorter_sortOn_20, mz_rl d_Sorter_sortOn_22, mz_rl d_Sorter_sortOn_23, mz_rl d_Sorter_sortOn_26, mz_rl d_Sorter_sortOn_27, mz_rl d_Sorter_sortOn_28, mz_rl d_Sorter_sortOn_30, mz_rl d_Sorter_sortOn_59, mz_rl d_Sorter_sortOn_60, mz_rl d_Sorter_sortOn_63, mz_rl d_Sorter_sortOn_65, mz_rl d_Sorter_sortOn_66, j_Sorter_sortOn_23, nF_9, nI_ltI (show col < 2 ^ 31 by omega) (show fr < 2 ^ 31 by omega), show ¬ col < fr by omega]
    rw [← eF]
    refine mz_callV (by simp only [d_Sorter_sortOn_31, Nat.reduceAdd]) g_9_53 rfl (fun _ _ h => h) (hstep N gp T g c π _ (64 ^ (to - col)) col false hP hcp he (fun i hi => keyF_lt (hsg i hi) _ _ (by omega)) (by omega)) k5 rfl rfl (by decide) (Nat.le_of_ble_eq_true rfl) rfl ?_; rintro v_ n_ f_ ⟨r1, gp1, T1, g1, c1, π1, rfl, rfl, rfl, hP1, hcp1, he1⟩
    obtain ⟨j5, jd, ja, j6, j7, jC⟩ := key (ps0 + nI (N + 1)) gp1 T1 g1
    refine mz_go [38] 12 ?_
    simp only [mz_r0, ev_0, ev_1, ev_2, ev_3, ev_4, ev_5, ev_6, ev_7, ev_8, ev_9, ev_10, ev_11, ev_12, ev_13, ev_14, ev_15, ev_16, ev_17, ev_18, ev_19, ev_20, ev_21, ev_22, ev_23, ev_24, ev_25, ev_26, ev_27, ev_28, ev_29, ev_30, ev_31, ev_32, ev_33, ev_34, ev_35, ev_36, ev_37, ev_38, ev_39, ev_40, ev_41, ev_42, ev_43, ev_44, ev_45, ev_46, ev_47, ev_48, ev_49, ev_50, ev_51, ev_52, ev_53, ev_54, ev_55, ev_56, ev_57, ev_58, ev_59, ev_60, ev_61, ev_62, ev_63, ev_64, ev_65, ev_66, ev_67, ev_68, ev_69, ev_70, ev_71, ev_72, ev_73, ev_74, ev_75, ev_76, ev_77, ev_78, ev_79, ev_80, ev_81, ev_82, ev_83, mk_lit, mk_fin, mk_cat, mk_fit, mk_nar, mk_fld, mk_cls, mk_ty, mk_isr, List.mem_cons, List.not_mem_nil, or_false, or_true, false_or, true_or, Nat.reduceEqDiff, Nat.reduceAdd, Nat.reduceSub, Nat.reduceLT, Nat.reduceLeDiff, ↓reduceIte, if_true, if_false, List.getElem?_cons_zero, List.getElem?_cons_succ, List.set_cons_zero, List.set_cons_succ, List.length_cons, List.length_nil, mz_s1, mz_s2, mz_cl, true_and, and_true, false_and, and_false, List.append_nil, mk_b0, mk_b1, mk_b2, mk_bn, Value.int.injEq, Option.toList_some, Option.toList_none, List.cons_append, List.nil_append, Classical.not_not, Option.some.injEq, reduceCtorEq, ne_eq, not_true_eq_false, not_false_eq_true, false_implies, true_implies, mz_rl d_Sorter_sortOn_34, mz_rl d_Sorter_sortOn_35, mz_rl d_Sorter_sortOn_36, nF_9]
    refine mz_callV (by simp only [d_Sorter_sortOn_38, Nat.reduceAdd]) g_9_57 rfl (fun _ _ h => h) (c_Deck_hasZoneIn G X _ _ jd ja hs jC hP1 (show col < 16 by omega)) jd rfl rfl (by decide) (Nat.le_of_ble_eq_true rfl) rfl ?_; intro v_ n_ f_ h_; obtain ⟨rfl, hn_, hf_⟩ := h_; replace hn_ := hn_.symm; replace hf_ := hf_.symm; subst hn_; subst hf_
    have ezz := znB_perm (s := s) (col := col) he1 hcp1
    refine mz_go [49, 53] 12 ?_
    simp only [mz_r0, ev_0, ev_1, ev_2, ev_3, ev_4, ev_5, ev_6, ev_7, ev_8, ev_9, ev_10, ev_11, ev_12, ev_13, ev_14, ev_15, ev_16, ev_17, ev_18, ev_19, ev_20, ev_21, ev_22, ev_23, ev_24, ev_25, ev_26, ev_27, ev_28, ev_29, ev_30, ev_31, ev_32, ev_33, ev_34, ev_35, ev_36, ev_37, ev_38, ev_39, ev_40, ev_41, ev_42, ev_43, ev_44, ev_45, ev_46, ev_47, ev_48, ev_49, ev_50, ev_51, ev_52, ev_53, ev_54, ev_55, ev_56, ev_57, ev_58, ev_59, ev_60, ev_61, ev_62, ev_63, ev_64, ev_65, ev_66, ev_67, ev_68, ev_69, ev_70, ev_71, ev_72, ev_73, ev_74, ev_75, ev_76, ev_77, ev_78, ev_79, ev_80, ev_81, ev_82, ev_83, mk_lit, mk_fin, mk_cat, mk_fit, mk_nar, mk_fld, mk_cls, mk_ty, mk_isr, List.mem_cons, List.not_mem_nil, or_false, or_true, false_or, true_or, Nat.reduceEqDiff, Nat.reduceAdd, Nat.reduceSub, Nat.reduceLT, Nat.reduceLeDiff, ↓reduceIte, if_true, if_false, List.getElem?_cons_zero, List.getElem?_cons_succ, List.set_cons_zero, List.set_cons_succ, List.length_cons, List.length_nil, mz_s1, mz_s2, mz_cl, true_and, and_true, false_and, and_false, List.append_nil, mk_b0, mk_b1, mk_b2, mk_bn, Value.int.injEq, Option.toList_some, Option.toList_none, List.cons_append, List.nil_append, Classical.not_not, Option.some.injEq, reduceCtorEq, ne_eq, not_true_eq_false, not_false_eq_true, false_implies, true_implies, mz_rl d_Sorter_sortOn_41, mz_rl d_Sorter_sortOn_44, mz_rl d_Sorter_sortOn_45, mz_rl d_Sorter_sortOn_46, mz_rl d_Sorter_sortOn_48, j_Sorter_sortOn_41, nF_9]
    refine ⟨fun h => ?_, fun h => ?_⟩
    · rw [ezz] at h
      have ew : wpN s c0 sz col = 1 := if_neg h
      refine fin (N + 1) gp1 T1 g1 c1 π1 (by omega) hP1 hcp1 (enu_cong he1 (fun i hi => ?_))
      have hz : zn (s (c0 i) col) = 0 := by
        rcases Nat.eq_zero_or_pos (zn (s (c0 i) col)) with z | z
        · exact z
        · exact absurd ((znB_iff sz 0).mpr ⟨i, Nat.zero_le _, by omega, z⟩) h
      exact key_dp hz
    · rw [ezz] at h
      have ew : wpN s c0 sz col = 2 := if_pos h
      rw [← eT]
      refine mz_callV (by simp only [d_Sorter_sortOn_49, Nat.reduceAdd]) g_9_53 rfl (fun _ _ h => h) (hstep (N + 1) gp1 T1 g1 c1 π1 _ (11 * 64 ^ (to - col)) col true hP1 hcp1 he1 (fun i hi => key_lt2 (hsg i hi) (by omega)) (by omega)) j5 rfl rfl (by decide) (Nat.le_of_ble_eq_true rfl) rfl ?_; rintro v_ n_ f_ ⟨r2, gp2, T2, g2, c2, π2, rfl, rfl, rfl, hP2, hcp2, he2⟩
      refine mz_go [53] 12 ?_
      simp only [mz_r0, ev_0, ev_1, ev_2, ev_3, ev_4, ev_5, ev_6, ev_7, ev_8, ev_9, ev_10, ev_11, ev_12, ev_13, ev_14, ev_15, ev_16, ev_17, ev_18, ev_19, ev_20, ev_21, ev_22, ev_23, ev_24, ev_25, ev_26, ev_27, ev_28, ev_29, ev_30, ev_31, ev_32, ev_33, ev_34, ev_35, ev_36, ev_37, ev_38, ev_39, ev_40, ev_41, ev_42, ev_43, ev_44, ev_45, ev_46, ev_47, ev_48, ev_49, ev_50, ev_51, ev_52, ev_53, ev_54, ev_55, ev_56, ev_57, ev_58, ev_59, ev_60, ev_61, ev_62, ev_63, ev_64, ev_65, ev_66, ev_67, ev_68, ev_69, ev_70, ev_71, ev_72, ev_73, ev_74, ev_75, ev_76, ev_77, ev_78, ev_79, ev_80, ev_81, ev_82, ev_83, mk_lit, mk_fin, mk_cat, mk_fit, mk_nar, mk_fld, mk_cls, mk_ty, mk_isr, List.mem_cons, List.not_mem_nil, or_false, or_true, false_or, true_or, Nat.reduceEqDiff, Nat.reduceAdd, Nat.reduceSub, Nat.reduceLT, Nat.reduceLeDiff, ↓reduceIte, if_true, if_false, List.getElem?_cons_zero, List.getElem?_cons_succ, List.set_cons_zero, List.set_cons_succ, List.length_cons, List.length_nil, mz_s1, mz_s2, mz_cl, true_and, and_true, false_and, and_false, List.append_nil, mk_b0, mk_b1, mk_b2, mk_bn, Value.int.injEq, Option.toList_some, Option.toList_none, List.cons_append, List.nil_append, Classical.not_not, Option.some.injEq, reduceCtorEq, ne_eq, not_true_eq_false, not_false_eq_true, false_implies, true_implies, mz_rl d_Sorter_sortOn_52, nF_9]
      exact fin (N + 1 + 1) gp2 T2 g2 c2 π2 (by omega) hP2 hcp2 (enu_cong he2 (fun i hi => key_zn))
/-- keys in order, as isSorted tells them -/
theorem srtB_iff {s : Nat → Nat → Nat} {fr to K : Nat} {c : Nat → Nat} (hf : fr ≤ to) (ht : to < 16) : ∀ m i, 1 ≤ i → (∀ j, j < i + m → ∀ k, k < 16 → sg (s (c j) k)) → (srtB s fr to c i m = true ↔ ∀ j, i ≤ j → j < i + m → keyC s fr to (c (j - 1)) ≤ keyC s fr to (c j)) := by
  intro m
  induction m with
  | zero => intro i h1 h2; exact ⟨fun _ j a b => absurd b (by omega), fun _ => rfl⟩
  | succ m ih =>
    intro i h1 h2
    unfold srtB
    have w := (cmpC_key (h2 i (by omega)) (h2 (i - 1) (by omega)) hf ht).1
    by_cases h : cmpC s fr to (c i) (c (i - 1)) < 0
    · rw [if_pos h]
      refine ⟨fun z => (by cases z), fun z => ?_⟩
      have := z i (Nat.le_refl _) (by omega)
      have := w.mp h
      omega
    · rw [if_neg h, ih (i + 1) (by omega) (fun j hj => h2 j (by omega))]
      have hn : ¬ keyC s fr to (c i) < keyC s fr to (c (i - 1)) := fun z => h (w.mpr z)
      refine ⟨fun z j a b => ?_, fun z j a b => z j (by omega) (by omega)⟩
      by_cases e : j = i
      · subst e; omega
      · exact z j (by omega) (by omega)
theorem srtB_enu {s : Nat → Nat → Nat} {fr to sz : Nat} {c : Nat → Nat} (hf : fr ≤ to) (ht : to < 16) (hs : ∀ j, j < sz → ∀ k, k < 16 → sg (s (c j) k)) (h : srtB s fr to c 1 (sz - 1) = true) : enu (fun i => keyC s fr to (c i)) sz (fun i => i) := by
  refine enu_id (fun i hi => ?_)
  have := (srtB_iff (K := 0) hf ht (sz - 1) 1 (Nat.le_refl _) (fun j hj => hs j (by omega))).mp h (i + 1) (by omega) (by omega)
  exact this
theorem c_Sorter_sortOn (G : mz_G) (X : mz_E) (n : Nat) (f : mz_H) {d a sz fr to K : Nat} {ps : Int32} {g T : Nat → Option Nat} {gp : Nat → Int32} {s : Nat → Nat → Nat} {c : Nat → Nat} (h0 : f 5 = .inr (9, [.ref 6, .ref 7, .int ps])) (h1 : f d = .inr (4, [.ref a, .int (nI sz)])) (h2 : f a = aQ 6 200 g) (h6 : f 6 = aI 11 gp) (h7 : f 7 = aQ 6 200 T) (hd : d < 172) (ha : a < 172) (ha7 : a ≠ 7) (hs : sz ≤ 200) (hC : Cd f K s) (hP : Ps g sz c K) (hft : fr ≤ to) (ht : to < 16) :
    mz_Ct G X y_Sorter_sortOn b_Sorter_sortOn 6 (some .int) (r_Sorter_sortOn 0 0) [.ref 5, .ref d, .int (nI fr), .int (nI to)] n f (fun v n' f' => ∃ N gp T g c' π, N = (if srtB s fr to c 1 (sz - 1) = true then 0 else sm (wpN s c sz) (to + 1) - sm (wpN s c sz) fr) ∧ v = some (.int (nI N)) ∧ n' = n ∧ f' = sH f a (ps + nI N) gp T g ∧ Ps g sz c' K ∧ (∀ r, r < sz → c' r = c (π r)) ∧ enu (fun i => keyC s fr to (c i)) sz π) := by
  have ha6 : a ≠ 6 := by rintro rfl; rw [h2] at h6; cases h6
  have ha5 : a ≠ 5 := by rintro rfl; rw [h0] at h2; cases h2
  have hd6 : d ≠ 6 := by rintro rfl; rw [h1] at h6; cases h6
  have hd7 : d ≠ 7 := by rintro rfl; rw [h1] at h7; cases h7
  have hd5 : d ≠ 5 := by rintro rfl; rw [h1] at h0; cases h0
  have hda : d ≠ a := by rintro rfl; rw [h1] at h2; cases h2
  refine mk_Ct 9 false [some (.ref 5), some (.ref d), some (.int (nI fr)), some (.int (nI to)), none, none] (by decide) rfl (by decide) (Nat.le_of_ble_eq_true rfl) rfl ?_
  refine mz_go [3] 12 ?_
  simp only [mz_r0, ev_0, ev_1, ev_2, ev_3, ev_4, ev_5, ev_6, ev_7, ev_8, ev_9, ev_10, ev_11, ev_12, ev_13, ev_14, ev_15, ev_16, ev_17, ev_18, ev_19, ev_20, ev_21, ev_22, ev_23, ev_24, ev_25, ev_26, ev_27, ev_28, ev_29, ev_30, ev_31, ev_32, ev_33, ev_34, ev_35, ev_36, ev_37, ev_38, ev_39, ev_40, ev_41, ev_42, ev_43, ev_44, ev_45, ev_46, ev_47, ev_48, ev_49, ev_50, ev_51, ev_52, ev_53, ev_54, ev_55, ev_56, ev_57, ev_58, ev_59, ev_60, ev_61, ev_62, ev_63, ev_64, ev_65, ev_66, ev_67, ev_68, ev_69, ev_70, ev_71, ev_72, ev_73, ev_74, ev_75, ev_76, ev_77, ev_78, ev_79, ev_80, ev_81, ev_82, ev_83, mk_lit, mk_fin, mk_cat, mk_fit, mk_nar, mk_fld, mk_cls, mk_ty, mk_isr, List.mem_cons, List.not_mem_nil, or_false, or_true, false_or, true_or, Nat.reduceEqDiff, Nat.reduceAdd, Nat.reduceSub, Nat.reduceLT, Nat.reduceLeDiff, ↓reduceIte, if_true, if_false, List.getElem?_cons_zero, List.getElem?_cons_succ, List.set_cons_zero, List.set_cons_succ, List.length_cons, List.length_nil, mz_s1, mz_s2, mz_cl, true_and, and_true, false_and, and_false, List.append_nil, mk_b0, mk_b1, mk_b2, mk_bn, Value.int.injEq, Option.toList_some, Option.toList_none, List.cons_append, List.nil_append, Classical.not_not, Option.some.injEq, reduceCtorEq, ne_eq, not_true_eq_false, not_false_eq_true, false_implies, true_implies, mz_rl d_Sorter_sortOn_0, mz_rl d_Sorter_sortOn_1, mz_rl d_Sorter_sortOn_2, nF_9]
  refine mz_callV (by simp only [d_Sorter_sortOn_3, Nat.reduceAdd]) g_9_49 rfl (fun _ _ h => h) (c_Deck_isSorted G X n f h1 h2 hs hC hP hft ht) h1 rfl rfl (by decide) (Nat.le_of_ble_eq_true rfl) rfl ?_; intro v_ n_ f_ h_; obtain ⟨rfl, hn_, hf_⟩ := h_; replace hn_ := hn_.symm; replace hf_ := hf_.symm; subst hn_; subst hf_
  refine mz_go [20] 12 ?_
  simp only [mz_r0, ev_0, ev_1, ev_2, ev_3, ev_4, ev_5, ev_6, ev_7, ev_8, ev_9, ev_10, ev_11, ev_12, ev_13, ev_14, ev_15, ev_16, ev_17, ev_18, ev_19, ev_20, ev_21, ev_22, ev_23, ev_24, ev_25, ev_26, ev_27, ev_28, ev_29, ev_30, ev_31, ev_32, ev_33, ev_34, ev_35, ev_36, ev_37, ev_38, ev_39, ev_40, ev_41, ev_42, ev_43, ev_44, ev_45, ev_46, ev_47, ev_48, ev_49, ev_50, ev_51, ev_52, ev_53, ev_54, ev_55, ev_56, ev_57, ev_58, ev_59, ev_60, ev_61, ev_62, ev_63, ev_64, ev_65, ev_66, ev_67, ev_68, ev_69, ev_70, ev_71, ev_72, ev_73, ev_74, ev_75, ev_76, ev_77, ev_78, ev_79, ev_80, ev_81, ev_82, ev_83, mk_lit, mk_fin, mk_cat, mk_fit, mk_nar, mk_fld, mk_cls, mk_ty, mk_isr, List.mem_cons, List.not_mem_nil, or_false, or_true, false_or, true_or, Nat.reduceEqDiff, Nat.reduceAdd, Nat.reduceSub, Nat.reduceLT, Nat.reduceLeDiff, ↓reduceIte, if_true, if_false, List.getElem?_cons_zero, List.getElem?_cons_succ, List.set_cons_zero, List.set_cons_succ, List.length_cons, List.length_nil, mz_s1, mz_s2, mz_cl, true_and, and_true, false_and, and_false, List.append_nil, mk_b0, mk_b1, mk_b2, mk_bn, Value.int.injEq, Option.toList_some, Option.toList_none, List.cons_append, List.nil_append, Classical.not_not, Option.some.injEq, reduceCtorEq, ne_eq, not_true_eq_false, not_false_eq_true, false_implies, true_implies, mz_rl d_Sorter_sortOn_6, mz_rl d_Sorter_sortOn_9, mz_rl d_Sorter_sortOn_10, mz_rl d_Sorter_sortOn_11, mz_rl d_Sorter_sortOn_12, mz_rl d_Sorter_sortOn_15, mz_rl d_Sorter_sortOn_17, mz_rl d_Sorter_sortOn_18, j_Sorter_sortOn_6, nF_9, h0]
  refine ⟨fun h => ?_, fun h => ?_⟩
  · have := l_Sorter_sortOn G X n f (s := s) (ps0 := ps) (c0 := c) h1 hd ha ha5 ha6 ha7 hda hd5 hd6 hd7 hs hC (fun i hi => (hP i hi).2) hft ht (to + 1 - fr) to 0 gp T g c (fun i => i) (by omega) (Nat.zero_add _) hP (fun _ _ => rfl) (by
      rw [Nat.sub_self]; exact enu_id (fun i _ => Nat.le_refl _))
    rw [show ps + nI 0 = ps from Int32.add_zero ps, sH_id h0 h6 h7 h2] at this
    refine mz_mono ?_ this
    rintro v n' f' ⟨N, gp', T', g', c', π, eN, q1, q2, q3, q4, q5, q6⟩
    exact ⟨N, gp', T', g', c', π, by rw [if_neg h]; omega, q1, q2, q3, q4, q5, q6⟩
  · refine ⟨0, gp, T, g, c, fun i => i, by rw [if_pos h], rfl, ?_, hP, fun _ _ => rfl, srtB_enu hft ht (fun j hj => (hC _ (hP j hj).2).2.2) h⟩
    rw [show ps + nI 0 = ps from Int32.add_zero ps]
    exact (sH_id h0 h6 h7 h2).symm
