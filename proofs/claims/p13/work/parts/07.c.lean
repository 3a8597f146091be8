theorem mk_pwn {k : Nat} (h : k < 7) : ¬ mk_pw k = 0 := by
  rcases (show k = 0 ∨ k = 1 ∨ k = 2 ∨ k = 3 ∨ k = 4 ∨ k = 5 ∨ k = 6 by omega) with rfl | rfl | rfl | rfl | rfl | rfl | rfl <;> decide
theorem mk_ne10 : ¬ nI 10 = 0 := by decide
/-- what a counter's wheel shows -/
def whl (x : Int32) (k : Nat) : Int32 := if x / mk_pw k = 0 ∧ 0 < k then nI 32 else nI 48 + (x / mk_pw k - x / mk_pw k / nI 10 * nI 10)
theorem c_Board_wheelSign (G : mz_G) (n : Nat) (f : mz_H) {k : Nat} {x : Int32} (hE : f 1000000000001 = mz_d) (hk : k < 6) :
    mz_Ct G mk_P y_Board_wheelSign b_Board_wheelSign 3 (some .int) (r_Board_wheelSign 0 0) [.int x, .int (nI k)] n f (fun v n' f' => v = some (.int (whl x k)) ∧ n' = n ∧ f' = f) := by
  refine mk_Ct 1 false [some (.int x), some (.int (nI k)), none] (by decide) rfl (by decide) (Nat.le_of_ble_eq_true rfl) rfl ?_
  refine mz_go [] 30 ?_
  simp only [mz_run, ev_0, ev_1, ev_2, ev_3, ev_4, ev_5, ev_6, ev_7, ev_8, ev_9, ev_10, ev_11, ev_12, ev_13, ev_14, ev_15, ev_16, ev_17, ev_18, ev_19, ev_20, ev_21, ev_22, ev_23, ev_24, ev_25, ev_26, ev_27, ev_28, ev_29, ev_30, ev_31, ev_32, ev_33, ev_34, ev_35, ev_36, ev_37, ev_38, ev_39, ev_40, ev_41, ev_42, ev_43, ev_44, ev_45, ev_46, ev_47, ev_48, ev_49, ev_50, ev_51, ev_52, ev_53, ev_54, ev_55, ev_56, ev_57, ev_58, ev_59, ev_60, ev_61, ev_62, ev_63, ev_64, ev_65, ev_66, ev_67, ev_68, ev_69, ev_70, ev_71, ev_72, ev_73, ev_74, ev_75, ev_76, ev_77, ev_78, ev_79, ev_80, ev_81, ev_82, ev_83, mk_lit, mk_fin, mk_cat, mk_fit, mk_nar, mk_fld, mk_cls, mk_ty, mk_isr, List.mem_cons, List.not_mem_nil, or_false, or_true, false_or, true_or, Nat.reduceEqDiff, Nat.reduceAdd, Nat.reduceSub, Nat.reduceLT, Nat.reduceLeDiff, reduceIte, if_true, if_false, List.getElem?_cons_zero, List.getElem?_cons_succ, List.set_cons_zero, List.set_cons_succ, List.length_cons, List.length_nil, mz_s1, mz_s2, mz_cl, true_and, and_true, false_and, and_false, List.append_nil, mk_b0, mk_b1, mk_b2, mk_bn, Value.int.injEq, Option.toList_some, Option.toList_none, List.cons_append, List.nil_append, Classical.not_not, Option.some.injEq, reduceCtorEq, ne_eq, not_true_eq_false, not_false_eq_true, false_implies, true_implies, d_Board_wheelSign, j_Board_wheelSign, nF_1, mk_sta, mk_P1, hE, mz_d, vp_in_nI (show k < 7 by omega) (show 7 < 2 ^ 31 by decide), nI_clamp (show k < 2 ^ 31 by omega), mk_pwn (show k < 7 by omega), mk_ne10, mk_le, mk_nti (show k < 2 ^ 31 by omega), mk_ti]
  unfold whl
  refine ⟨fun h => ?_, fun h => ⟨fun h2 => ?_, fun h2 => ?_⟩⟩
  · rw [if_neg (fun z => h z.1)]
  · rw [if_neg (fun z => by omega)]
  · rw [if_pos ⟨h, by omega⟩]
/-- jacks laid into the cells -/
def jH (f : mz_H) (j ja q N : Nat) (g : Nat → Int32) (cl : Int32) : mz_H := mz_u (mz_u f ja (aI N g)) j (.inr (6, [.int (nI q), .ref ja, .int cl]))
theorem jH_jH (f : mz_H) {j ja q N : Nat} {g g' : Nat → Int32} {cl cl' : Int32} (h : j ≠ ja) : mz_u (mz_u (jH f j ja q N g cl) j (.inr (6, [.int (nI q), .ref ja, .int cl']))) ja (aI N g') = jH f j ja q N g' cl' := by
  unfold jH
  rw [mz_uu, mz_uc _ h, mz_uu]
/-- what the wires up to i bring from a card: the jacks' signs, and whether two differed -/
def brC (F T : Nat → Nat) (s : Nat → Nat) (q N : Nat) : Nat → (Nat → Int32) × Int32 → (Nat → Int32) × Int32
  | 0, z => z
  | i + 1, z => let y := brC F T s q N i z
    if F i < 32 ∧ q ≤ T i ∧ T i < q + N then (upd y.1 (T i - q) (nI (sgF F s i)), if y.1 (T i - q) = -1 ∨ y.1 (T i - q) = nI (sgF F s i) then y.2 else nI 1) else y
theorem l_Board_bringFromCard (G : mz_G) (X : mz_E) (n : Nat) (f : mz_H) {b w x K j ja q N : Nat} {F T L : Nat → Nat} {s : Nat → Nat → Nat} {z : (Nat → Int32) × Int32} (h : Bd f b w F T L) (hok : BdOk w F T L) (hC : Cd f K s) (hx : x < K) (hj : j < 172) (hja : ja < 172) (hjj : j ≠ ja) (hjb : j < b ∨ b + 3 < j) (hjab : ja < b ∨ b + 3 < ja) (hN : q + N < 2 ^ 31) :
    ∀ m i, i + m = w → mz_X G X 1 false b_Board_bringFromCard 4 none (r_Board_bringFromCard 0 0) (fun v n' f' => v = none ∧ n' = n ∧ f' = jH f j ja q N (brC F T (s x) q N w z).1 (brC F T (s x) q N w z).2) (fun _ _ _ => False) 6 [some (.ref b), some (.ref (172 + 2 * x)), some (.ref j), some (.int (nI i))] [] 0 0 n (jH f j ja q N (brC F T (s x) q N i z).1 (brC F T (s x) q N i z).2) := by
  have hw := hok.1
  intro m
  induction m with
  | zero =>
    intro i hi
    have : i = w := by omega
    subst this
    have h' : Bd (jH f j ja q N (brC F T (s x) q N i z).1 (brC F T (s x) q N i z).2) b i F T L := Bd_u (Bd_u h hjab _) hjb _
    refine mz_go [6] 12 ?_
    simp only [mz_run, ev_0, ev_1, ev_2, ev_3, ev_4, ev_5, ev_6, ev_7, ev_8, ev_9, ev_10, ev_11, ev_12, ev_13, ev_14, ev_15, ev_16, ev_17, ev_18, ev_19, ev_20, ev_21, ev_22, ev_23, ev_24, ev_25, ev_26, ev_27, ev_28, ev_29, ev_30, ev_31, ev_32, ev_33, ev_34, ev_35, ev_36, ev_37, ev_38, ev_39, ev_40, ev_41, ev_42, ev_43, ev_44, ev_45, ev_46, ev_47, ev_48, ev_49, ev_50, ev_51, ev_52, ev_53, ev_54, ev_55, ev_56, ev_57, ev_58, ev_59, ev_60, ev_61, ev_62, ev_63, ev_64, ev_65, ev_66, ev_67, ev_68, ev_69, ev_70, ev_71, ev_72, ev_73, ev_74, ev_75, ev_76, ev_77, ev_78, ev_79, ev_80, ev_81, ev_82, ev_83, mk_lit, mk_fin, mk_cat, mk_fit, mk_nar, mk_fld, mk_cls, mk_ty, mk_isr, List.mem_cons, List.not_mem_nil, or_false, or_true, false_or, true_or, Nat.reduceEqDiff, Nat.reduceAdd, Nat.reduceSub, Nat.reduceLT, Nat.reduceLeDiff, reduceIte, if_true, if_false, List.getElem?_cons_zero, List.getElem?_cons_succ, List.set_cons_zero, List.set_cons_succ, List.length_cons, List.length_nil, mz_s1, mz_s2, mz_cl, true_and, and_true, false_and, and_false, List.append_nil, mk_b0, mk_b1, mk_b2, mk_bn, Value.int.injEq, Option.toList_some, Option.toList_none, List.cons_append, List.nil_append, Classical.not_not, Option.some.injEq, reduceCtorEq, ne_eq, not_true_eq_false, not_false_eq_true, false_implies, true_implies, d_Board_bringFromCard, j_Board_bringFromCard, nF_1, h'.1, nI_leI (show i < 2 ^ 31 by omega) (show i < 2 ^ 31 by omega), Nat.le_refl]
  | succ m ih =>
    intro i hi
    have hlt : i < w := by omega
    have e1 := (hok.2.1 i hlt).1
    have e2 := (hok.2.1 i hlt).2
    have e1' := okF_lt e1
    have e2' := okT_lt e2
    obtain ⟨y, hy⟩ : ∃ y, y = brC F T (s x) q N i z := ⟨_, rfl⟩
    rw [← hy]
    have hnext : brC F T (s x) q N (i + 1) z = if F i < 32 ∧ q ≤ T i ∧ T i < q + N then (upd y.1 (T i - q) (nI (sgF F (s x) i)), if y.1 (T i - q) = -1 ∨ y.1 (T i - q) = nI (sgF F (s x) i) then y.2 else nI 1) else y := by rw [hy]; rfl
    have ih' := ih (i + 1) (by omega)
    rw [hnext] at ih'
    obtain ⟨H, hH⟩ : ∃ H, H = jH f j ja q N y.1 y.2 := ⟨_, rfl⟩
    have h' : Bd H b w F T L := by rw [hH]; exact Bd_u (Bd_u h hjab _) hjb _
    have hC' : Cd H K s := by rw [hH]; exact Cd_u (Cd_u hC hja _) hj _
    have k1 : H j = .inr (6, [.int (nI q), .ref ja, .int y.2]) := by rw [hH]; exact mz_u_s _ _ _
    have k2 : H ja = aI N y.1 := by rw [hH]; unfold jH; rw [mz_u_n (Ne.symm hjj), mz_u_s]
    rw [← hH]
    have skip : ¬ (F i < 32 ∧ q ≤ T i ∧ T i < q + N) → mz_X G X 1 false b_Board_bringFromCard 4 none (r_Board_bringFromCard 0 0) (fun v n' f' => v = none ∧ n' = n ∧ f' = jH f j ja q N (brC F T (s x) q N w z).1 (brC F T (s x) q N w z).2) (fun _ _ _ => False) 51 [some (.ref b), some (.ref (172 + 2 * x)), some (.ref j), some (.int (nI i))] [] 0 0 n H := by
      intro hno
      rw [if_neg hno, ← hH] at ih'
      refine mz_go [6] 12 ?_
      simp only [mz_run, ev_0, ev_1, ev_2, ev_3, ev_4, ev_5, ev_6, ev_7, ev_8, ev_9, ev_10, ev_11, ev_12, ev_13, ev_14, ev_15, ev_16, ev_17, ev_18, ev_19, ev_20, ev_21, ev_22, ev_23, ev_24, ev_25, ev_26, ev_27, ev_28, ev_29, ev_30, ev_31, ev_32, ev_33, ev_34, ev_35, ev_36, ev_37, ev_38, ev_39, ev_40, ev_41, ev_42, ev_43, ev_44, ev_45, ev_46, ev_47, ev_48, ev_49, ev_50, ev_51, ev_52, ev_53, ev_54, ev_55, ev_56, ev_57, ev_58, ev_59, ev_60, ev_61, ev_62, ev_63, ev_64, ev_65, ev_66, ev_67, ev_68, ev_69, ev_70, ev_71, ev_72, ev_73, ev_74, ev_75, ev_76, ev_77, ev_78, ev_79, ev_80, ev_81, ev_82, ev_83, mk_lit, mk_fin, mk_cat, mk_fit, mk_nar, mk_fld, mk_cls, mk_ty, mk_isr, List.mem_cons, List.not_mem_nil, or_false, or_true, false_or, true_or, Nat.reduceEqDiff, Nat.reduceAdd, Nat.reduceSub, Nat.reduceLT, Nat.reduceLeDiff, reduceIte, if_true, if_false, List.getElem?_cons_zero, List.getElem?_cons_succ, List.set_cons_zero, List.set_cons_succ, List.length_cons, List.length_nil, mz_s1, mz_s2, mz_cl, true_and, and_true, false_and, and_false, List.append_nil, mk_b0, mk_b1, mk_b2, mk_bn, Value.int.injEq, Option.toList_some, Option.toList_none, List.cons_append, List.nil_append, Classical.not_not, Option.some.injEq, reduceCtorEq, ne_eq, not_true_eq_false, not_false_eq_true, false_implies, true_implies, d_Board_bringFromCard, j_Board_bringFromCard, nF_1, nI_add]
      exact ih'
    refine mz_go [16] 12 ?_
    simp only [mz_run, ev_0, ev_1, ev_2, ev_3, ev_4, ev_5, ev_6, ev_7, ev_8, ev_9, ev_10, ev_11, ev_12, ev_13, ev_14, ev_15, ev_16, ev_17, ev_18, ev_19, ev_20, ev_21, ev_22, ev_23, ev_24, ev_25, ev_26, ev_27, ev_28, ev_29, ev_30, ev_31, ev_32, ev_33, ev_34, ev_35, ev_36, ev_37, ev_38, ev_39, ev_40, ev_41, ev_42, ev_43, ev_44, ev_45, ev_46, ev_47, ev_48, ev_49, ev_50, ev_51, ev_52, ev_53, ev_54, ev_55, ev_56, ev_57, ev_58, ev_59, ev_60, ev_61, ev_62, ev_63, ev_64, ev_65, ev_66, ev_67, ev_68, ev_69, ev_70, ev_71, ev_72, ev_73, ev_74, ev_75, ev_76, ev_77, ev_78, ev_79, ev_80, ev_81, ev_82, ev_83, mk_lit, mk_fin, mk_cat, mk_fit, mk_nar, mk_fld, mk_cls, mk_ty, mk_isr, List.mem_cons, List.not_mem_nil, or_false, or_true, false_or, true_or, Nat.reduceEqDiff, Nat.reduceAdd, Nat.reduceSub, Nat.reduceLT, Nat.reduceLeDiff, reduceIte, if_true, if_false, List.getElem?_cons_zero, List.getElem?_cons_succ, List.set_cons_zero, List.set_cons_succ, List.length_cons, List.length_nil, mz_s1, mz_s2, mz_cl, true_and, and_true, false_and, and_false, List.append_nil, mk_b0, mk_b1, mk_b2, mk_bn, Value.int.injEq, Option.toList_some, Option.toList_none, List.cons_append, List.nil_append, Classical.not_not, Option.some.injEq, reduceCtorEq, ne_eq, not_true_eq_false, not_false_eq_true, false_implies, true_implies, d_Board_bringFromCard, j_Board_bringFromCard, nF_1, h'.1, nI_leI (show w < 2 ^ 31 by omega) (show i < 2 ^ 31 by omega), show ¬ w ≤ i by omega]
    refine mz_callV (by simp only [d_Board_bringFromCard, Nat.reduceAdd]) g_1_45 rfl (fun _ _ h => h) (c_Board_isFromExit G X n H h' hok hlt) h'.1 rfl rfl (by decide) (Nat.le_of_ble_eq_true rfl) rfl ?_; intro v_ n_ f_ h_; obtain ⟨rfl, hn_, hf_⟩ := h_; replace hn_ := hn_.symm; replace hf_ := hf_.symm; subst hn_; subst hf_
    refine mz_go [29, 51] 12 ?_
    simp only [mz_run, ev_0, ev_1, ev_2, ev_3, ev_4, ev_5, ev_6, ev_7, ev_8, ev_9, ev_10, ev_11, ev_12, ev_13, ev_14, ev_15, ev_16, ev_17, ev_18, ev_19, ev_20, ev_21, ev_22, ev_23, ev_24, ev_25, ev_26, ev_27, ev_28, ev_29, ev_30, ev_31, ev_32, ev_33, ev_34, ev_35, ev_36, ev_37, ev_38, ev_39, ev_40, ev_41, ev_42, ev_43, ev_44, ev_45, ev_46, ev_47, ev_48, ev_49, ev_50, ev_51, ev_52, ev_53, ev_54, ev_55, ev_56, ev_57, ev_58, ev_59, ev_60, ev_61, ev_62, ev_63, ev_64, ev_65, ev_66, ev_67, ev_68, ev_69, ev_70, ev_71, ev_72, ev_73, ev_74, ev_75, ev_76, ev_77, ev_78, ev_79, ev_80, ev_81, ev_82, ev_83, mk_lit, mk_fin, mk_cat, mk_fit, mk_nar, mk_fld, mk_cls, mk_ty, mk_isr, List.mem_cons, List.not_mem_nil, or_false, or_true, false_or, true_or, Nat.reduceEqDiff, Nat.reduceAdd, Nat.reduceSub, Nat.reduceLT, Nat.reduceLeDiff, reduceIte, if_true, if_false, List.getElem?_cons_zero, List.getElem?_cons_succ, List.set_cons_zero, List.set_cons_succ, List.length_cons, List.length_nil, mz_s1, mz_s2, mz_cl, true_and, and_true, false_and, and_false, List.append_nil, mk_b0, mk_b1, mk_b2, mk_bn, Value.int.injEq, Option.toList_some, Option.toList_none, List.cons_append, List.nil_append, Classical.not_not, Option.some.injEq, reduceCtorEq, ne_eq, not_true_eq_false, not_false_eq_true, false_implies, true_implies, d_Board_bringFromCard, j_Board_bringFromCard, nF_1, h'.1, h'.2.2.1, vp_in_nI (show i < 40 by omega) (show 40 < 2 ^ 31 by decide), nI_clamp (show i < 2 ^ 31 by omega)]
    refine ⟨fun hf => skip (by omega), fun hf => ?_⟩
    refine mz_callV (by simp only [d_Board_bringFromCard, Nat.reduceAdd]) g_1_49 rfl (fun _ _ h => h) (c_Jacks_hasJack G X n H (x := nI (T i)) k1 k2 hN) k1 rfl rfl (by decide) (Nat.le_of_ble_eq_true rfl) rfl ?_; intro v_ n_ f_ h_; obtain ⟨rfl, hn_, hf_⟩ := h_; replace hn_ := hn_.symm; replace hf_ := hf_.symm; subst hn_; subst hf_
    refine mz_go [45, 51] 12 ?_
    simp only [mz_run, ev_0, ev_1, ev_2, ev_3, ev_4, ev_5, ev_6, ev_7, ev_8, ev_9, ev_10, ev_11, ev_12, ev_13, ev_14, ev_15, ev_16, ev_17, ev_18, ev_19, ev_20, ev_21, ev_22, ev_23, ev_24, ev_25, ev_26, ev_27, ev_28, ev_29, ev_30, ev_31, ev_32, ev_33, ev_34, ev_35, ev_36, ev_37, ev_38, ev_39, ev_40, ev_41, ev_42, ev_43, ev_44, ev_45, ev_46, ev_47, ev_48, ev_49, ev_50, ev_51, ev_52, ev_53, ev_54, ev_55, ev_56, ev_57, ev_58, ev_59, ev_60, ev_61, ev_62, ev_63, ev_64, ev_65, ev_66, ev_67, ev_68, ev_69, ev_70, ev_71, ev_72, ev_73, ev_74, ev_75, ev_76, ev_77, ev_78, ev_79, ev_80, ev_81, ev_82, ev_83, mk_lit, mk_fin, mk_cat, mk_fit, mk_nar, mk_fld, mk_cls, mk_ty, mk_isr, List.mem_cons, List.not_mem_nil, or_false, or_true, false_or, true_or, Nat.reduceEqDiff, Nat.reduceAdd, Nat.reduceSub, Nat.reduceLT, Nat.reduceLeDiff, reduceIte, if_true, if_false, List.getElem?_cons_zero, List.getElem?_cons_succ, List.set_cons_zero, List.set_cons_succ, List.length_cons, List.length_nil, mz_s1, mz_s2, mz_cl, true_and, and_true, false_and, and_false, List.append_nil, mk_b0, mk_b1, mk_b2, mk_bn, Value.int.injEq, Option.toList_some, Option.toList_none, List.cons_append, List.nil_append, Classical.not_not, Option.some.injEq, reduceCtorEq, ne_eq, not_true_eq_false, not_false_eq_true, false_implies, true_implies, d_Board_bringFromCard, j_Board_bringFromCard, nF_1, h'.1, h'.2.2.1, vp_in_nI (show i < 40 by omega) (show 40 < 2 ^ 31 by decide), nI_clamp (show i < 2 ^ 31 by omega), mk_nti (show T i < 2 ^ 31 by omega)]
    refine ⟨fun hf2 => skip (by omega), fun hf2 => ?_⟩
    have hyes : F i < 32 ∧ q ≤ T i ∧ T i < q + N := by omega
    rw [if_pos hyes] at ih'
    refine mz_callV (by simp only [d_Board_bringFromCard, Nat.reduceAdd]) g_1_52 rfl (fun _ _ h => h) (c_Board_signFrom G X n H h' hok hlt hC' hx) h'.1 rfl rfl (by decide) (Nat.le_of_ble_eq_true rfl) rfl ?_; intro v_ n_ f_ h_; obtain ⟨rfl, hn_, hf_⟩ := h_; replace hn_ := hn_.symm; replace hf_ := hf_.symm; subst hn_; subst hf_
    have eT : nI (T i) = nI (q + (T i - q)) := by congr 1; omega
    have hb := c_Jacks_bring G X n H (x := nI (sgF F (s x) i)) (k := T i - q) k1 k2 (by omega) hN
    rw [← eT] at hb
    refine mz_callV (by simp only [d_Board_bringFromCard, Nat.reduceAdd]) g_1_56 rfl (fun _ _ h => h) (hb) k1 rfl rfl (by decide) (Nat.le_of_ble_eq_true rfl) rfl ?_; intro v_ n_ f_ h_; obtain ⟨rfl, hn_, hf_⟩ := h_; replace hn_ := hn_.symm; replace hf_ := hf_.symm; subst hn_; subst hf_
    rw [hH, jH_jH f hjj]
    refine mz_go [6] 12 ?_
    simp only [mz_run, ev_0, ev_1, ev_2, ev_3, ev_4, ev_5, ev_6, ev_7, ev_8, ev_9, ev_10, ev_11, ev_12, ev_13, ev_14, ev_15, ev_16, ev_17, ev_18, ev_19, ev_20, ev_21, ev_22, ev_23, ev_24, ev_25, ev_26, ev_27, ev_28, ev_29, ev_30, ev_31, ev_32, ev_33, ev_34, ev_35, ev_36, ev_37, ev_38, ev_39, ev_40, ev_41, ev_42, ev_43, ev_44, ev_45, ev_46, ev_47, ev_48, ev_49, ev_50, ev_51, ev_52, ev_53, ev_54, ev_55, ev_56, ev_57, ev_58, ev_59, ev_60, ev_61, ev_62, ev_63, ev_64, ev_65, ev_66, ev_67, ev_68, ev_69, ev_70, ev_71, ev_72, ev_73, ev_74, ev_75, ev_76, ev_77, ev_78, ev_79, ev_80, ev_81, ev_82, ev_83, mk_lit, mk_fin, mk_cat, mk_fit, mk_nar, mk_fld, mk_cls, mk_ty, mk_isr, List.mem_cons, List.not_mem_nil, or_false, or_true, false_or, true_or, Nat.reduceEqDiff, Nat.reduceAdd, Nat.reduceSub, Nat.reduceLT, Nat.reduceLeDiff, reduceIte, if_true, if_false, List.getElem?_cons_zero, List.getElem?_cons_succ, List.set_cons_zero, List.set_cons_succ, List.length_cons, List.length_nil, mz_s1, mz_s2, mz_cl, true_and, and_true, false_and, and_false, List.append_nil, mk_b0, mk_b1, mk_b2, mk_bn, Value.int.injEq, Option.toList_some, Option.toList_none, List.cons_append, List.nil_append, Classical.not_not, Option.some.injEq, reduceCtorEq, ne_eq, not_true_eq_false, not_false_eq_true, false_implies, true_implies, d_Board_bringFromCard, j_Board_bringFromCard, nF_1, nI_add]
    exact ih'
theorem c_Board_bringFromCard (G : mz_G) (X : mz_E) (n : Nat) (f : mz_H) {b w x K j ja q N : Nat} {F T L : Nat → Nat} {s : Nat → Nat → Nat} {g : Nat → Int32} {cl : Int32} (h : Bd f b w F T L) (hok : BdOk w F T L) (hC : Cd f K s) (hx : x < K) (k1 : f j = .inr (6, [.int (nI q), .ref ja, .int cl])) (k2 : f ja = aI N g) (hj : j < 172) (hja : ja < 172) (hjb : j < b ∨ b + 3 < j) (hjab : ja < b ∨ b + 3 < ja) (hN : q + N < 2 ^ 31) :
    mz_Ct G X y_Board_bringFromCard b_Board_bringFromCard 4 none (r_Board_bringFromCard 0 0) [.ref b, .ref (172 + 2 * x), .ref j] n f (fun v n' f' => v = none ∧ n' = n ∧ f' = jH f j ja q N (brC F T (s x) q N w (cpy (fun _ => -1) g N, nI 0)).1 (brC F T (s x) q N w (cpy (fun _ => -1) g N, nI 0)).2) := by
  have hjj : j ≠ ja := by rintro rfl; rw [k1] at k2; cases k2
  refine mk_Ct 1 false [some (.ref b), some (.ref (172 + 2 * x)), some (.ref j), none] (by decide) rfl (by decide) (Nat.le_of_ble_eq_true rfl) rfl ?_
  refine mz_go [1] 12 ?_
  simp only [mz_run, ev_0, ev_1, ev_2, ev_3, ev_4, ev_5, ev_6, ev_7, ev_8, ev_9, ev_10, ev_11, ev_12, ev_13, ev_14, ev_15, ev_16, ev_17, ev_18, ev_19, ev_20, ev_21, ev_22, ev_23, ev_24, ev_25, ev_26, ev_27, ev_28, ev_29, ev_30, ev_31, ev_32, ev_33, ev_34, ev_35, ev_36, ev_37, ev_38, ev_39, ev_40, ev_41, ev_42, ev_43, ev_44, ev_45, ev_46, ev_47, ev_48, ev_49, ev_50, ev_51, ev_52, ev_53, ev_54, ev_55, ev_56, ev_57, ev_58, ev_59, ev_60, ev_61, ev_62, ev_63, ev_64, ev_65, ev_66, ev_67, ev_68, ev_69, ev_70, ev_71, ev_72, ev_73, ev_74, ev_75, ev_76, ev_77, ev_78, ev_79, ev_80, ev_81, ev_82, ev_83, mk_lit, mk_fin, mk_cat, mk_fit, mk_nar, mk_fld, mk_cls, mk_ty, mk_isr, List.mem_cons, List.not_mem_nil, or_false, or_true, false_or, true_or, Nat.reduceEqDiff, Nat.reduceAdd, Nat.reduceSub, Nat.reduceLT, Nat.reduceLeDiff, reduceIte, if_true, if_false, List.getElem?_cons_zero, List.getElem?_cons_succ, List.set_cons_zero, List.set_cons_succ, List.length_cons, List.length_nil, mz_s1, mz_s2, mz_cl, true_and, and_true, false_and, and_false, List.append_nil, mk_b0, mk_b1, mk_b2, mk_bn, Value.int.injEq, Option.toList_some, Option.toList_none, List.cons_append, List.nil_append, Classical.not_not, Option.some.injEq, reduceCtorEq, ne_eq, not_true_eq_false, not_false_eq_true, false_implies, true_implies, d_Board_bringFromCard, j_Board_bringFromCard, nF_1]
  refine mz_callV (by simp only [d_Board_bringFromCard, Nat.reduceAdd]) g_1_40 rfl (fun _ _ h => h) (c_Jacks_clear G X n f k1 k2 (by omega)) k1 rfl rfl (by decide) (Nat.le_of_ble_eq_true rfl) rfl ?_; intro v_ n_ f_ h_; obtain ⟨rfl, hn_, hf_⟩ := h_; replace hn_ := hn_.symm; replace hf_ := hf_.symm; subst hn_; subst hf_
  refine mz_go [6] 12 ?_
  simp only [mz_run, ev_0, ev_1, ev_2, ev_3, ev_4, ev_5, ev_6, ev_7, ev_8, ev_9, ev_10, ev_11, ev_12, ev_13, ev_14, ev_15, ev_16, ev_17, ev_18, ev_19, ev_20, ev_21, ev_22, ev_23, ev_24, ev_25, ev_26, ev_27, ev_28, ev_29, ev_30, ev_31, ev_32, ev_33, ev_34, ev_35, ev_36, ev_37, ev_38, ev_39, ev_40, ev_41, ev_42, ev_43, ev_44, ev_45, ev_46, ev_47, ev_48, ev_49, ev_50, ev_51, ev_52, ev_53, ev_54, ev_55, ev_56, ev_57, ev_58, ev_59, ev_60, ev_61, ev_62, ev_63, ev_64, ev_65, ev_66, ev_67, ev_68, ev_69, ev_70, ev_71, ev_72, ev_73, ev_74, ev_75, ev_76, ev_77, ev_78, ev_79, ev_80, ev_81, ev_82, ev_83, mk_lit, mk_fin, mk_cat, mk_fit, mk_nar, mk_fld, mk_cls, mk_ty, mk_isr, List.mem_cons, List.not_mem_nil, or_false, or_true, false_or, true_or, Nat.reduceEqDiff, Nat.reduceAdd, Nat.reduceSub, Nat.reduceLT, Nat.reduceLeDiff, reduceIte, if_true, if_false, List.getElem?_cons_zero, List.getElem?_cons_succ, List.set_cons_zero, List.set_cons_succ, List.length_cons, List.length_nil, mz_s1, mz_s2, mz_cl, true_and, and_true, false_and, and_false, List.append_nil, mk_b0, mk_b1, mk_b2, mk_bn, Value.int.injEq, Option.toList_some, Option.toList_none, List.cons_append, List.nil_append, Classical.not_not, Option.some.injEq, reduceCtorEq, ne_eq, not_true_eq_false, not_false_eq_true, false_implies, true_implies, d_Board_bringFromCard, j_Board_bringFromCard, nF_1]
  exact l_Board_bringFromCard G X n f (z := (cpy (fun _ => -1) g N, nI 0)) h hok hC hx hj hja hjj hjb hjab hN w 0 (by omega)
/-- every jack holds nothing or a sign -/
theorem brC_ok {F T : Nat → Nat} {s : Nat → Nat} {q N w : Nat} {z : (Nat → Int32) × Int32} {L : Nat → Nat} (hok : BdOk w F T L) (hs : ∀ j, j < 16 → sg (s j)) (hz : ∀ k, k < N → z.1 k = -1 ∨ ∃ c, sg c ∧ z.1 k = nI c) (hz2 : z.2 = nI 0 ∨ z.2 = nI 1) : ∀ i, i ≤ w → (∀ k, k < N → (brC F T s q N i z).1 k = -1 ∨ ∃ c, sg c ∧ (brC F T s q N i z).1 k = nI c) ∧ ((brC F T s q N i z).2 = nI 0 ∨ (brC F T s q N i z).2 = nI 1) := by
  intro i
  induction i with
  | zero => intro _; exact ⟨hz, hz2⟩
  | succ i ih =>
    intro hi
    obtain ⟨a1, a2⟩ := ih (by omega)
    unfold brC
    by_cases hc : F i < 32 ∧ q ≤ T i ∧ T i < q + N
    · simp only [hc, and_self, if_true]
      refine ⟨fun k hk => ?_, ?_⟩
      · unfold upd
        by_cases e : k = T i - q
        · rw [if_pos e]; exact Or.inr ⟨_, sgF_ok (hok.2.1 i (by omega)).1 hc.1 hs, rfl⟩
        · rw [if_neg e]; exact a1 k hk
      · split
        · exact a2
        · exact Or.inr rfl
    · simp only [hc, if_false]
      exact ⟨a1, a2⟩
