/-- which card comes first: -1 or 0 the deck's, 1 the other's -/
def ordK (s : Nat → Nat → Nat) (fr to : Nat) (c co : Nat → Nat) (sz so i j : Nat) : Int32 := if so ≤ j then -1 else if sz ≤ i then nI 1 else cmpC s fr to (c i) (co j)
theorem c_Collator_orderOf (G : mz_G) (X : mz_E) (n : Nat) (f : mz_H) {d a o b sz so fr to K i j : Nat} {g go : Nat → Option Nat} {s : Nat → Nat → Nat} {c co : Nat → Nat} (h1 : f d = .inr (4, [.ref a, .int (nI sz)])) (h2 : f a = aQ 6 200 g) (h3 : f o = .inr (4, [.ref b, .int (nI so)])) (h4 : f b = aQ 6 200 go) (hs : sz ≤ 200) (hso : so ≤ 200) (hC : Cd f K s) (hP : Ps g sz c K) (hPo : Ps go so co K) (hf : fr ≤ to) (ht : to < 16) (hi : i < 2 ^ 31) (hj : j < 2 ^ 31) :
    mz_Ct G X y_Collator_orderOf b_Collator_orderOf 6 (some .int) (r_Collator_orderOf 0 0) [.ref d, .int (nI i), .ref o, .int (nI j), .int (nI fr), .int (nI to)] n f (fun v n' f' => v = some (.int (ordK s fr to c co sz so i j)) ∧ n' = n ∧ f' = f) := by
  refine mk_Ct 3 false [some (.ref d), some (.int (nI i)), some (.ref o), some (.int (nI j)), some (.int (nI fr)), some (.int (nI to))] (by decide) rfl (by decide) (Nat.le_of_ble_eq_true rfl) rfl ?_
  refine mz_go [22] 30 ?_
  simp only [mz_run, ev_0, ev_1, ev_2, ev_3, ev_4, ev_5, ev_6, ev_7, ev_8, ev_9, ev_10, ev_11, ev_12, ev_13, ev_14, ev_15, ev_16, ev_17, ev_18, ev_19, ev_20, ev_21, ev_22, ev_23, ev_24, ev_25, ev_26, ev_27, ev_28, ev_29, ev_30, ev_31, ev_32, ev_33, ev_34, ev_35, ev_36, ev_37, ev_38, ev_39, ev_40, ev_41, ev_42, ev_43, ev_44, ev_45, ev_46, ev_47, ev_48, ev_49, ev_50, ev_51, ev_52, ev_53, ev_54, ev_55, ev_56, ev_57, ev_58, ev_59, ev_60, ev_61, ev_62, ev_63, ev_64, ev_65, ev_66, ev_67, ev_68, ev_69, ev_70, ev_71, ev_72, ev_73, ev_74, ev_75, ev_76, ev_77, ev_78, ev_79, ev_80, ev_81, ev_82, ev_83, mk_lit, mk_fin, mk_cat, mk_fit, mk_nar, mk_fld, mk_cls, mk_ty, mk_isr, List.mem_cons, List.not_mem_nil, or_false, or_true, false_or, true_or, Nat.reduceEqDiff, Nat.reduceAdd, Nat.reduceSub, Nat.reduceLT, Nat.reduceLeDiff, reduceIte, if_true, if_false, List.getElem?_cons_zero, List.getElem?_cons_succ, List.set_cons_zero, List.set_cons_succ, List.length_cons, List.length_nil, mz_s1, mz_s2, mz_cl, true_and, and_true, false_and, and_false, List.append_nil, mk_b0, mk_b1, mk_b2, mk_bn, Value.int.injEq, Option.toList_some, Option.toList_none, List.cons_append, List.nil_append, Classical.not_not, Option.some.injEq, reduceCtorEq, ne_eq, not_true_eq_false, not_false_eq_true, false_implies, true_implies, d_Collator_orderOf, j_Collator_orderOf, nF_3, h1, h3, nI_ltI hj (show so < 2 ^ 31 by omega), nI_ltI hi (show sz < 2 ^ 31 by omega)]
  refine ⟨fun ha => ⟨fun hb => ?_, fun hb => ?_⟩, fun ha => ?_⟩
  · have e1 := hP i hb
    have e2 := hPo j ha
    have q1 := hC _ e1.2
    have q2 := hC _ e2.2
    refine mz_callV (by simp only [d_Collator_orderOf, Nat.reduceAdd]) g_3_30 rfl (fun _ _ h => h) (c_Deck_at G X n f h1 h2 (show i < 200 by omega) e1.1) h1 rfl rfl (by decide) (Nat.le_of_ble_eq_true rfl) rfl ?_; intro v_ n_ f_ h_; obtain ⟨rfl, hn_, hf_⟩ := h_; replace hn_ := hn_.symm; replace hf_ := hf_.symm; subst hn_; subst hf_
    refine mz_go [27] 30 ?_
    simp only [mz_run, ev_0, ev_1, ev_2, ev_3, ev_4, ev_5, ev_6, ev_7, ev_8, ev_9, ev_10, ev_11, ev_12, ev_13, ev_14, ev_15, ev_16, ev_17, ev_18, ev_19, ev_20, ev_21, ev_22, ev_23, ev_24, ev_25, ev_26, ev_27, ev_28, ev_29, ev_30, ev_31, ev_32, ev_33, ev_34, ev_35, ev_36, ev_37, ev_38, ev_39, ev_40, ev_41, ev_42, ev_43, ev_44, ev_45, ev_46, ev_47, ev_48, ev_49, ev_50, ev_51, ev_52, ev_53, ev_54, ev_55, ev_56, ev_57, ev_58, ev_59, ev_60, ev_61, ev_62, ev_63, ev_64, ev_65, ev_66, ev_67, ev_68, ev_69, ev_70, ev_71, ev_72, ev_73, ev_74, ev_75, ev_76, ev_77, ev_78, ev_79, ev_80, ev_81, ev_82, ev_83, mk_lit, mk_fin, mk_cat, mk_fit, mk_nar, mk_fld, mk_cls, mk_ty, mk_isr, List.mem_cons, List.not_mem_nil, or_false, or_true, false_or, true_or, Nat.reduceEqDiff, Nat.reduceAdd, Nat.reduceSub, Nat.reduceLT, Nat.reduceLeDiff, reduceIte, if_true, if_false, List.getElem?_cons_zero, List.getElem?_cons_succ, List.set_cons_zero, List.set_cons_succ, List.length_cons, List.length_nil, mz_s1, mz_s2, mz_cl, true_and, and_true, false_and, and_false, List.append_nil, mk_b0, mk_b1, mk_b2, mk_bn, Value.int.injEq, Option.toList_some, Option.toList_none, List.cons_append, List.nil_append, Classical.not_not, Option.some.injEq, reduceCtorEq, ne_eq, not_true_eq_false, not_false_eq_true, false_implies, true_implies, d_Collator_orderOf, j_Collator_orderOf, nF_3]
    refine mz_callV (by simp only [d_Collator_orderOf, Nat.reduceAdd]) g_3_30 rfl (fun _ _ h => h) (c_Deck_at G X n f h3 h4 (show j < 200 by omega) e2.1) h3 rfl rfl (by decide) (Nat.le_of_ble_eq_true rfl) rfl ?_; intro v_ n_ f_ h_; obtain ⟨rfl, hn_, hf_⟩ := h_; replace hn_ := hn_.symm; replace hf_ := hf_.symm; subst hn_; subst hf_
    refine mz_go [34] 30 ?_
    simp only [mz_run, ev_0, ev_1, ev_2, ev_3, ev_4, ev_5, ev_6, ev_7, ev_8, ev_9, ev_10, ev_11, ev_12, ev_13, ev_14, ev_15, ev_16, ev_17, ev_18, ev_19, ev_20, ev_21, ev_22, ev_23, ev_24, ev_25, ev_26, ev_27, ev_28, ev_29, ev_30, ev_31, ev_32, ev_33, ev_34, ev_35, ev_36, ev_37, ev_38, ev_39, ev_40, ev_41, ev_42, ev_43, ev_44, ev_45, ev_46, ev_47, ev_48, ev_49, ev_50, ev_51, ev_52, ev_53, ev_54, ev_55, ev_56, ev_57, ev_58, ev_59, ev_60, ev_61, ev_62, ev_63, ev_64, ev_65, ev_66, ev_67, ev_68, ev_69, ev_70, ev_71, ev_72, ev_73, ev_74, ev_75, ev_76, ev_77, ev_78, ev_79, ev_80, ev_81, ev_82, ev_83, mk_lit, mk_fin, mk_cat, mk_fit, mk_nar, mk_fld, mk_cls, mk_ty, mk_isr, List.mem_cons, List.not_mem_nil, or_false, or_true, false_or, true_or, Nat.reduceEqDiff, Nat.reduceAdd, Nat.reduceSub, Nat.reduceLT, Nat.reduceLeDiff, reduceIte, if_true, if_false, List.getElem?_cons_zero, List.getElem?_cons_succ, List.set_cons_zero, List.set_cons_succ, List.length_cons, List.length_nil, mz_s1, mz_s2, mz_cl, true_and, and_true, false_and, and_false, List.append_nil, mk_b0, mk_b1, mk_b2, mk_bn, Value.int.injEq, Option.toList_some, Option.toList_none, List.cons_append, List.nil_append, Classical.not_not, Option.some.injEq, reduceCtorEq, ne_eq, not_true_eq_false, not_false_eq_true, false_implies, true_implies, d_Collator_orderOf, j_Collator_orderOf, nF_3]
    refine mz_callV (by simp only [d_Collator_orderOf, Nat.reduceAdd]) g_3_42 rfl (fun _ _ h => h) (c_Card_compareOn G X n f q1.1 q2.1 q1.2.1 q2.2.1 q1.2.2 q2.2.2 hf ht) q1.1 rfl rfl (by decide) (Nat.le_of_ble_eq_true rfl) rfl ?_; intro v_ n_ f_ h_; obtain ⟨rfl, hn_, hf_⟩ := h_; replace hn_ := hn_.symm; replace hf_ := hf_.symm; subst hn_; subst hf_
    refine mz_go [] 30 ?_
    simp only [mz_run, ev_0, ev_1, ev_2, ev_3, ev_4, ev_5, ev_6, ev_7, ev_8, ev_9, ev_10, ev_11, ev_12, ev_13, ev_14, ev_15, ev_16, ev_17, ev_18, ev_19, ev_20, ev_21, ev_22, ev_23, ev_24, ev_25, ev_26, ev_27, ev_28, ev_29, ev_30, ev_31, ev_32, ev_33, ev_34, ev_35, ev_36, ev_37, ev_38, ev_39, ev_40, ev_41, ev_42, ev_43, ev_44, ev_45, ev_46, ev_47, ev_48, ev_49, ev_50, ev_51, ev_52, ev_53, ev_54, ev_55, ev_56, ev_57, ev_58, ev_59, ev_60, ev_61, ev_62, ev_63, ev_64, ev_65, ev_66, ev_67, ev_68, ev_69, ev_70, ev_71, ev_72, ev_73, ev_74, ev_75, ev_76, ev_77, ev_78, ev_79, ev_80, ev_81, ev_82, ev_83, mk_lit, mk_fin, mk_cat, mk_fit, mk_nar, mk_fld, mk_cls, mk_ty, mk_isr, List.mem_cons, List.not_mem_nil, or_false, or_true, false_or, true_or, Nat.reduceEqDiff, Nat.reduceAdd, Nat.reduceSub, Nat.reduceLT, Nat.reduceLeDiff, reduceIte, if_true, if_false, List.getElem?_cons_zero, List.getElem?_cons_succ, List.set_cons_zero, List.set_cons_succ, List.length_cons, List.length_nil, mz_s1, mz_s2, mz_cl, true_and, and_true, false_and, and_false, List.append_nil, mk_b0, mk_b1, mk_b2, mk_bn, Value.int.injEq, Option.toList_some, Option.toList_none, List.cons_append, List.nil_append, Classical.not_not, Option.some.injEq, reduceCtorEq, ne_eq, not_true_eq_false, not_false_eq_true, false_implies, true_implies, d_Collator_orderOf, j_Collator_orderOf, nF_3]
    unfold ordK
    rw [if_neg (by omega), if_neg (by omega)]; rfl
  · unfold ordK
    rw [if_neg (by omega), if_pos (by omega)]
  · unfold ordK
    rw [if_pos (by omega)]
theorem ordK_le {s : Nat → Nat → Nat} {fr to sz so i j : Nat} {c co : Nat → Nat} (h : ordK s fr to c co sz so i j ≤ 0) (hk : i + j < sz + so) : i < sz := by
  unfold ordK at h
  by_cases h1 : so ≤ j
  · omega
  · rw [if_neg h1] at h
    by_cases h2 : sz ≤ i
    · rw [if_pos h2] at h; exact absurd h (by decide)
    · omega
theorem ordK_gt {s : Nat → Nat → Nat} {fr to sz so i j : Nat} {c co : Nat → Nat} (h : ¬ ordK s fr to c co sz so i j ≤ 0) : j < so := by
  unfold ordK at h
  by_cases h1 : so ≤ j
  · rw [if_pos h1] at h; exact absurd (by decide) h
  · omega
/-- the merging, step by step: how many of each deck are gone, the row so far -/
def mgT (s : Nat → Nat → Nat) (fr to : Nat) (c co : Nat → Nat) (sz so : Nat) : Nat → Nat × Nat × (Nat → Nat)
  | 0 => (0, 0, c)
  | k + 1 => if ordK s fr to c co sz so (mgT s fr to c co sz so k).1 (mgT s fr to c co sz so k).2.1 ≤ 0 then ((mgT s fr to c co sz so k).1 + 1, (mgT s fr to c co sz so k).2.1, va_up (mgT s fr to c co sz so k).2.2 k (c (mgT s fr to c co sz so k).1)) else ((mgT s fr to c co sz so k).1, (mgT s fr to c co sz so k).2.1 + 1, va_up (mgT s fr to c co sz so k).2.2 k (co (mgT s fr to c co sz so k).2.1))
theorem mgT_l {s : Nat → Nat → Nat} {fr to sz so k i j : Nat} {c co cr : Nat → Nat} (h : mgT s fr to c co sz so k = (i, j, cr)) (ho : ordK s fr to c co sz so i j ≤ 0) : mgT s fr to c co sz so (k + 1) = (i + 1, j, va_up cr k (c i)) := by
  unfold mgT; rw [h]; exact if_pos ho
theorem mgT_r {s : Nat → Nat → Nat} {fr to sz so k i j : Nat} {c co cr : Nat → Nat} (h : mgT s fr to c co sz so k = (i, j, cr)) (ho : ¬ ordK s fr to c co sz so i j ≤ 0) : mgT s fr to c co sz so (k + 1) = (i, j + 1, va_up cr k (co j)) := by
  unfold mgT; rw [h]; exact if_neg ho
theorem l_Collator_mergeOn (G : mz_G) (X : mz_E) (n : Nat) (f : mz_H) {d a o b sz so fr to K : Nat} {g go gr : Nat → Option Nat} {s : Nat → Nat → Nat} {c co : Nat → Nat} {ot : Value} {br : Int32} (post : Option Value → Nat → mz_H → Prop) (h8 : f 8 = .inr (3, [.ref 9, ot, .int br])) (h1 : f d = .inr (4, [.ref a, .int (nI sz)])) (h2 : f a = aQ 6 200 g) (h3 : f o = .inr (4, [.ref b, .int (nI so)])) (h4 : f b = aQ 6 200 go) (hs : sz + so ≤ 200) (hC : Cd f K s) (hP : Ps g sz c K) (hPo : Ps go so co K) (hf : fr ≤ to) (ht : to < 16) (hd9 : d ≠ 9 ∧ d ≠ 10) (ha9 : a ≠ 9 ∧ a ≠ 10) (ho9 : o ≠ 9 ∧ o ≠ 10) (hb9 : b ≠ 9 ∧ b ≠ 10)
    (hend : ∀ gr cr i j, mgT s fr to c co sz so (sz + so) = (i, j, cr) → Ps gr (sz + so) cr K → mz_X G X 3 false b_Collator_mergeOn 9 (some .int) (r_Collator_mergeOn 0 0) post (fun _ _ _ => False) 96 [some (.ref 8), some (.ref d), some (.ref o), some (.int (nI fr)), some (.int (nI to)), some (.int (nI (sz + so))), some (.int (nI i)), some (.int (nI j)), some (.int (nI (sz + so)))] [] 0 0 n (mz_u (mz_u f 10 (aQ 6 200 gr)) 9 (.inr (4, [.ref 10, .int (nI (sz + so))])))) :
    ∀ m k i j gr cr, k + m = sz + so → i + j = k → mgT s fr to c co sz so k = (i, j, cr) → Ps gr k cr K → mz_X G X 3 false b_Collator_mergeOn 9 (some .int) (r_Collator_mergeOn 0 0) post (fun _ _ _ => False) 33 [some (.ref 8), some (.ref d), some (.ref o), some (.int (nI fr)), some (.int (nI to)), some (.int (nI (sz + so))), some (.int (nI i)), some (.int (nI j)), some (.int (nI k))] [] 0 0 n (mz_u (mz_u f 10 (aQ 6 200 gr)) 9 (.inr (4, [.ref 10, .int (nI k)]))) := by
  intro m
  induction m with
  | zero =>
    intro k i j gr cr hk hij hT hPr
    have : k = sz + so := by omega
    subst this
    refine mz_go [33, 96] 12 ?_
    simp only [mz_run, ev_0, ev_1, ev_2, ev_3, ev_4, ev_5, ev_6, ev_7, ev_8, ev_9, ev_10, ev_11, ev_12, ev_13, ev_14, ev_15, ev_16, ev_17, ev_18, ev_19, ev_20, ev_21, ev_22, ev_23, ev_24, ev_25, ev_26, ev_27, ev_28, ev_29, ev_30, ev_31, ev_32, ev_33, ev_34, ev_35, ev_36, ev_37, ev_38, ev_39, ev_40, ev_41, ev_42, ev_43, ev_44, ev_45, ev_46, ev_47, ev_48, ev_49, ev_50, ev_51, ev_52, ev_53, ev_54, ev_55, ev_56, ev_57, ev_58, ev_59, ev_60, ev_61, ev_62, ev_63, ev_64, ev_65, ev_66, ev_67, ev_68, ev_69, ev_70, ev_71, ev_72, ev_73, ev_74, ev_75, ev_76, ev_77, ev_78, ev_79, ev_80, ev_81, ev_82, ev_83, mk_lit, mk_fin, mk_cat, mk_fit, mk_nar, mk_fld, mk_cls, mk_ty, mk_isr, List.mem_cons, List.not_mem_nil, or_false, or_true, false_or, true_or, Nat.reduceEqDiff, Nat.reduceAdd, Nat.reduceSub, Nat.reduceLT, Nat.reduceLeDiff, reduceIte, if_true, if_false, List.getElem?_cons_zero, List.getElem?_cons_succ, List.set_cons_zero, List.set_cons_succ, List.length_cons, List.length_nil, mz_s1, mz_s2, mz_cl, true_and, and_true, false_and, and_false, List.append_nil, mk_b0, mk_b1, mk_b2, mk_bn, Value.int.injEq, Option.toList_some, Option.toList_none, List.cons_append, List.nil_append, Classical.not_not, Option.some.injEq, reduceCtorEq, ne_eq, not_true_eq_false, not_false_eq_true, false_implies, true_implies, d_Collator_mergeOn, j_Collator_mergeOn, nF_3, nI_leI (show sz + so < 2 ^ 31 by omega) (show sz + so < 2 ^ 31 by omega), Nat.le_refl]
    exact hend gr cr i j hT hPr
  | succ m ih =>
    intro k i j gr cr hk hij hT hPr
    obtain ⟨H, hH⟩ : ∃ H, H = mz_u (mz_u f 10 (aQ 6 200 gr)) 9 (.inr (4, [.ref 10, .int (nI k)])) := ⟨_, rfl⟩
    rw [← hH]
    have ho : ∀ z, z ≠ 9 → z ≠ 10 → H z = f z := fun z z1 z2 => by rw [hH, mz_u_n z1, mz_u_n z2]
    have k8 := (ho 8 (by decide) (by decide)).trans h8
    have k1 := (ho d hd9.1 hd9.2).trans h1
    have k2 := (ho a ha9.1 ha9.2).trans h2
    have k3 := (ho o ho9.1 ho9.2).trans h3
    have k4 := (ho b hb9.1 hb9.2).trans h4
    have k9 : H 9 = .inr (4, [.ref 10, .int (nI k)]) := by rw [hH]; exact mz_u_s _ _ _
    have k10 : H 10 = aQ 6 200 gr := by rw [hH, mz_u_n (by decide), mz_u_s]
    have kC : Cd H K s := by rw [hH]; exact Cd_u (Cd_u hC (by decide) _) (by decide) _
    have step : ∀ x, x < K → mz_u (mz_u H 10 (aQ 6 200 (va_up gr k (some (172 + 2 * x))))) 9 (.inr (4, [.ref 10, .int (nI (k + 1))])) = mz_u (mz_u f 10 (aQ 6 200 (va_up gr k (some (172 + 2 * x))))) 9 (.inr (4, [.ref 10, .int (nI (k + 1))])) := fun x _ => by
      rw [hH, mz_uc _ (show (9 : Nat) ≠ 10 by decide), mz_uu, mz_uu]
    refine mz_go [49] 12 ?_
    simp only [mz_run, ev_0, ev_1, ev_2, ev_3, ev_4, ev_5, ev_6, ev_7, ev_8, ev_9, ev_10, ev_11, ev_12, ev_13, ev_14, ev_15, ev_16, ev_17, ev_18, ev_19, ev_20, ev_21, ev_22, ev_23, ev_24, ev_25, ev_26, ev_27, ev_28, ev_29, ev_30, ev_31, ev_32, ev_33, ev_34, ev_35, ev_36, ev_37, ev_38, ev_39, ev_40, ev_41, ev_42, ev_43, ev_44, ev_45, ev_46, ev_47, ev_48, ev_49, ev_50, ev_51, ev_52, ev_53, ev_54, ev_55, ev_56, ev_57, ev_58, ev_59, ev_60, ev_61, ev_62, ev_63, ev_64, ev_65, ev_66, ev_67, ev_68, ev_69, ev_70, ev_71, ev_72, ev_73, ev_74, ev_75, ev_76, ev_77, ev_78, ev_79, ev_80, ev_81, ev_82, ev_83, mk_lit, mk_fin, mk_cat, mk_fit, mk_nar, mk_fld, mk_cls, mk_ty, mk_isr, List.mem_cons, List.not_mem_nil, or_false, or_true, false_or, true_or, Nat.reduceEqDiff, Nat.reduceAdd, Nat.reduceSub, Nat.reduceLT, Nat.reduceLeDiff, reduceIte, if_true, if_false, List.getElem?_cons_zero, List.getElem?_cons_succ, List.set_cons_zero, List.set_cons_succ, List.length_cons, List.length_nil, mz_s1, mz_s2, mz_cl, true_and, and_true, false_and, and_false, List.append_nil, mk_b0, mk_b1, mk_b2, mk_bn, Value.int.injEq, Option.toList_some, Option.toList_none, List.cons_append, List.nil_append, Classical.not_not, Option.some.injEq, reduceCtorEq, ne_eq, not_true_eq_false, not_false_eq_true, false_implies, true_implies, d_Collator_mergeOn, j_Collator_mergeOn, nF_3, nI_leI (show sz + so < 2 ^ 31 by omega) (show k < 2 ^ 31 by omega), show ¬ sz + so ≤ k by omega]
    refine mz_callS (by simp only [d_Collator_mergeOn, Nat.reduceAdd]) g_3_26 rfl (fun _ _ h => h) (c_Collator_orderOf G X n H k1 k2 k3 k4 (by omega) (by omega) kC hP hPo hf ht (show i < 2 ^ 31 by omega) (show j < 2 ^ 31 by omega)) (by decide) (Nat.le_of_ble_eq_true rfl) rfl ?_; intro v_ n_ f_ h_; obtain ⟨rfl, hn_, hf_⟩ := h_; replace hn_ := hn_.symm; replace hf_ := hf_.symm; subst hn_; subst hf_
    refine mz_go [62, 81] 12 ?_
    simp only [mz_run, ev_0, ev_1, ev_2, ev_3, ev_4, ev_5, ev_6, ev_7, ev_8, ev_9, ev_10, ev_11, ev_12, ev_13, ev_14, ev_15, ev_16, ev_17, ev_18, ev_19, ev_20, ev_21, ev_22, ev_23, ev_24, ev_25, ev_26, ev_27, ev_28, ev_29, ev_30, ev_31, ev_32, ev_33, ev_34, ev_35, ev_36, ev_37, ev_38, ev_39, ev_40, ev_41, ev_42, ev_43, ev_44, ev_45, ev_46, ev_47, ev_48, ev_49, ev_50, ev_51, ev_52, ev_53, ev_54, ev_55, ev_56, ev_57, ev_58, ev_59, ev_60, ev_61, ev_62, ev_63, ev_64, ev_65, ev_66, ev_67, ev_68, ev_69, ev_70, ev_71, ev_72, ev_73, ev_74, ev_75, ev_76, ev_77, ev_78, ev_79, ev_80, ev_81, ev_82, ev_83, mk_lit, mk_fin, mk_cat, mk_fit, mk_nar, mk_fld, mk_cls, mk_ty, mk_isr, List.mem_cons, List.not_mem_nil, or_false, or_true, false_or, true_or, Nat.reduceEqDiff, Nat.reduceAdd, Nat.reduceSub, Nat.reduceLT, Nat.reduceLeDiff, reduceIte, if_true, if_false, List.getElem?_cons_zero, List.getElem?_cons_succ, List.set_cons_zero, List.set_cons_succ, List.length_cons, List.length_nil, mz_s1, mz_s2, mz_cl, true_and, and_true, false_and, and_false, List.append_nil, mk_b0, mk_b1, mk_b2, mk_bn, Value.int.injEq, Option.toList_some, Option.toList_none, List.cons_append, List.nil_append, Classical.not_not, Option.some.injEq, reduceCtorEq, ne_eq, not_true_eq_false, not_false_eq_true, false_implies, true_implies, d_Collator_mergeOn, j_Collator_mergeOn, nF_3, k8]
    refine ⟨fun h => ?_, fun h => ?_⟩
    · have hno : ¬ ordK s fr to c co sz so i j ≤ 0 := fun z => by rw [mk_lt] at h; rw [mk_le] at z; omega
      have hj := ordK_gt hno
      have e := hPo j hj
      refine mz_callV (by simp only [d_Collator_mergeOn, Nat.reduceAdd]) g_3_30 rfl (fun _ _ h => h) (c_Deck_at G X n H k3 k4 (show j < 200 by omega) e.1) k3 rfl rfl (by decide) (Nat.le_of_ble_eq_true rfl) rfl ?_; intro v_ n_ f_ h_; obtain ⟨rfl, hn_, hf_⟩ := h_; replace hn_ := hn_.symm; replace hf_ := hf_.symm; subst hn_; subst hf_
      refine mz_callV (by simp only [d_Collator_mergeOn, Nat.reduceAdd]) g_3_34 rfl (fun _ _ h => h) (c_Deck_add G X n H k9 k10 (kC _ e.2).1 (show k < 200 by omega)) k9 rfl rfl (by decide) (Nat.le_of_ble_eq_true rfl) rfl ?_; intro v_ n_ f_ h_; obtain ⟨rfl, hn_, hf_⟩ := h_; replace hn_ := hn_.symm; replace hf_ := hf_.symm; subst hn_; subst hf_
      rw [step _ e.2]
      refine mz_go [33] 12 ?_
      simp only [mz_run, ev_0, ev_1, ev_2, ev_3, ev_4, ev_5, ev_6, ev_7, ev_8, ev_9, ev_10, ev_11, ev_12, ev_13, ev_14, ev_15, ev_16, ev_17, ev_18, ev_19, ev_20, ev_21, ev_22, ev_23, ev_24, ev_25, ev_26, ev_27, ev_28, ev_29, ev_30, ev_31, ev_32, ev_33, ev_34, ev_35, ev_36, ev_37, ev_38, ev_39, ev_40, ev_41, ev_42, ev_43, ev_44, ev_45, ev_46, ev_47, ev_48, ev_49, ev_50, ev_51, ev_52, ev_53, ev_54, ev_55, ev_56, ev_57, ev_58, ev_59, ev_60, ev_61, ev_62, ev_63, ev_64, ev_65, ev_66, ev_67, ev_68, ev_69, ev_70, ev_71, ev_72, ev_73, ev_74, ev_75, ev_76, ev_77, ev_78, ev_79, ev_80, ev_81, ev_82, ev_83, mk_lit, mk_fin, mk_cat, mk_fit, mk_nar, mk_fld, mk_cls, mk_ty, mk_isr, List.mem_cons, List.not_mem_nil, or_false, or_true, false_or, true_or, Nat.reduceEqDiff, Nat.reduceAdd, Nat.reduceSub, Nat.reduceLT, Nat.reduceLeDiff, reduceIte, if_true, if_false, List.getElem?_cons_zero, List.getElem?_cons_succ, List.set_cons_zero, List.set_cons_succ, List.length_cons, List.length_nil, mz_s1, mz_s2, mz_cl, true_and, and_true, false_and, and_false, List.append_nil, mk_b0, mk_b1, mk_b2, mk_bn, Value.int.injEq, Option.toList_some, Option.toList_none, List.cons_append, List.nil_append, Classical.not_not, Option.some.injEq, reduceCtorEq, ne_eq, not_true_eq_false, not_false_eq_true, false_implies, true_implies, d_Collator_mergeOn, j_Collator_mergeOn, nF_3, nI_add]
      exact ih (k + 1) i (j + 1) _ _ (by omega) (by omega) (mgT_r hT hno) (Ps_add hPr e.2)
    · have hyes : ordK s fr to c co sz so i j ≤ 0 := by rw [mk_le]; rw [mk_lt] at h; omega
      have hi := ordK_le hyes (by omega)
      have e := hP i hi
      refine mz_callV (by simp only [d_Collator_mergeOn, Nat.reduceAdd]) g_3_30 rfl (fun _ _ h => h) (c_Deck_at G X n H k1 k2 (show i < 200 by omega) e.1) k1 rfl rfl (by decide) (Nat.le_of_ble_eq_true rfl) rfl ?_; intro v_ n_ f_ h_; obtain ⟨rfl, hn_, hf_⟩ := h_; replace hn_ := hn_.symm; replace hf_ := hf_.symm; subst hn_; subst hf_
      refine mz_callV (by simp only [d_Collator_mergeOn, Nat.reduceAdd]) g_3_34 rfl (fun _ _ h => h) (c_Deck_add G X n H k9 k10 (kC _ e.2).1 (show k < 200 by omega)) k9 rfl rfl (by decide) (Nat.le_of_ble_eq_true rfl) rfl ?_; intro v_ n_ f_ h_; obtain ⟨rfl, hn_, hf_⟩ := h_; replace hn_ := hn_.symm; replace hf_ := hf_.symm; subst hn_; subst hf_
      rw [step _ e.2]
      refine mz_go [33] 12 ?_
      simp only [mz_run, ev_0, ev_1, ev_2, ev_3, ev_4, ev_5, ev_6, ev_7, ev_8, ev_9, ev_10, ev_11, ev_12, ev_13, ev_14, ev_15, ev_16, ev_17, ev_18, ev_19, ev_20, ev_21, ev_22, ev_23, ev_24, ev_25, ev_26, ev_27, ev_28, ev_29, ev_30, ev_31, ev_32, ev_33, ev_34, ev_35, ev_36, ev_37, ev_38, ev_39, ev_40, ev_41, ev_42, ev_43, ev_44, ev_45, ev_46, ev_47, ev_48, ev_49, ev_50, ev_51, ev_52, ev_53, ev_54, ev_55, ev_56, ev_57, ev_58, ev_59, ev_60, ev_61, ev_62, ev_63, ev_64, ev_65, ev_66, ev_67, ev_68, ev_69, ev_70, ev_71, ev_72, ev_73, ev_74, ev_75, ev_76, ev_77, ev_78, ev_79, ev_80, ev_81, ev_82, ev_83, mk_lit, mk_fin, mk_cat, mk_fit, mk_nar, mk_fld, mk_cls, mk_ty, mk_isr, List.mem_cons, List.not_mem_nil, or_false, or_true, false_or, true_or, Nat.reduceEqDiff, Nat.reduceAdd, Nat.reduceSub, Nat.reduceLT, Nat.reduceLeDiff, reduceIte, if_true, if_false, List.getElem?_cons_zero, List.getElem?_cons_succ, List.set_cons_zero, List.set_cons_succ, List.length_cons, List.length_nil, mz_s1, mz_s2, mz_cl, true_and, and_true, false_and, and_false, List.append_nil, mk_b0, mk_b1, mk_b2, mk_bn, Value.int.injEq, Option.toList_some, Option.toList_none, List.cons_append, List.nil_append, Classical.not_not, Option.some.injEq, reduceCtorEq, ne_eq, not_true_eq_false, not_false_eq_true, false_implies, true_implies, d_Collator_mergeOn, j_Collator_mergeOn, nF_3, nI_add]
      exact ih (k + 1) (i + 1) j _ _ (by omega) (by omega) (mgT_l hT hyes) (Ps_add hPr e.2)
def mgPost (f : mz_H) (n d a o b K sz : Nat) (ot : Value) (br' : Int32) (cr : Nat → Nat) (v : Option Value) (n' : Nat) (F' : mz_H) : Prop := ∃ gr g10, v = some (.int (nI sz)) ∧ n' = n ∧ Fr f F' [8, 9, 10, d, a, o] ∧ F' 8 = .inr (3, [.ref 9, ot, .int br']) ∧ F' 9 = .inr (4, [.ref 10, .int (nI 0)]) ∧ F' 10 = aQ 6 200 g10 ∧ F' d = .inr (4, [.ref a, .int (nI sz)]) ∧ F' a = aQ 6 200 gr ∧ F' o = .inr (4, [.ref b, .int (nI 0)]) ∧ Ps gr sz cr K ∧ (∀ z, 172 ≤ z → F' z = f z)
theorem c_Collator_mergeOn (G : mz_G) (X : mz_E) (n : Nat) (f : mz_H) {d a o b sz so fr to K : Nat} {g go gr : Nat → Option Nat} {s : Nat → Nat → Nat} {c co : Nat → Nat} {ot : Value} {br : Int32} (h8 : f 8 = .inr (3, [.ref 9, ot, .int br])) (h9 : f 9 = .inr (4, [.ref 10, .int (nI 0)])) (h10 : f 10 = aQ 6 200 gr) (h1 : f d = .inr (4, [.ref a, .int (nI sz)])) (h2 : f a = aQ 6 200 g) (h3 : f o = .inr (4, [.ref b, .int (nI so)])) (h4 : f b = aQ 6 200 go) (hs : sz + so ≤ 200) (hC : Cd f K s) (hP : Ps g sz c K) (hPo : Ps go so co K) (hf : fr ≤ to) (ht : to < 16) (hdr : 12 < d ∧ d < 172) (har : 12 < a ∧ a < 172) (hor : 12 < o ∧ o < 172) (hbr : 12 < b ∧ b < 172) (hdo : d ≠ o) (hab : a ≠ b) :
    mz_Ct G X y_Collator_mergeOn b_Collator_mergeOn 9 (some .int) (r_Collator_mergeOn 0 0) [.ref 8, .ref d, .ref o, .int (nI fr), .int (nI to)] n f (mgPost f n d a o b K (sz + so) ot (br + nI so) (mgT s fr to c co sz so (sz + so)).2.2) := by
  have hda : d ≠ a := by rintro rfl; rw [h1] at h2; cases h2
  have hoa : o ≠ a := by rintro rfl; rw [h3] at h2; cases h2
  refine mk_Ct 3 false [some (.ref 8), some (.ref d), some (.ref o), some (.int (nI fr)), some (.int (nI to)), none, none, none, none] (by decide) rfl (by decide) (Nat.le_of_ble_eq_true rfl) rfl ?_
  refine mz_go [33] 30 ?_
  simp only [mz_run, ev_0, ev_1, ev_2, ev_3, ev_4, ev_5, ev_6, ev_7, ev_8, ev_9, ev_10, ev_11, ev_12, ev_13, ev_14, ev_15, ev_16, ev_17, ev_18, ev_19, ev_20, ev_21, ev_22, ev_23, ev_24, ev_25, ev_26, ev_27, ev_28, ev_29, ev_30, ev_31, ev_32, ev_33, ev_34, ev_35, ev_36, ev_37, ev_38, ev_39, ev_40, ev_41, ev_42, ev_43, ev_44, ev_45, ev_46, ev_47, ev_48, ev_49, ev_50, ev_51, ev_52, ev_53, ev_54, ev_55, ev_56, ev_57, ev_58, ev_59, ev_60, ev_61, ev_62, ev_63, ev_64, ev_65, ev_66, ev_67, ev_68, ev_69, ev_70, ev_71, ev_72, ev_73, ev_74, ev_75, ev_76, ev_77, ev_78, ev_79, ev_80, ev_81, ev_82, ev_83, mk_lit, mk_fin, mk_cat, mk_fit, mk_nar, mk_fld, mk_cls, mk_ty, mk_isr, List.mem_cons, List.not_mem_nil, or_false, or_true, false_or, true_or, Nat.reduceEqDiff, Nat.reduceAdd, Nat.reduceSub, Nat.reduceLT, Nat.reduceLeDiff, reduceIte, if_true, if_false, List.getElem?_cons_zero, List.getElem?_cons_succ, List.set_cons_zero, List.set_cons_succ, List.length_cons, List.length_nil, mz_s1, mz_s2, mz_cl, true_and, and_true, false_and, and_false, List.append_nil, mk_b0, mk_b1, mk_b2, mk_bn, Value.int.injEq, Option.toList_some, Option.toList_none, List.cons_append, List.nil_append, Classical.not_not, Option.some.injEq, reduceCtorEq, ne_eq, not_true_eq_false, not_false_eq_true, false_implies, true_implies, d_Collator_mergeOn, j_Collator_mergeOn, nF_3, h1, h3, h8, nI_add]
  obtain ⟨f1, hf1⟩ : ∃ f1, f1 = mz_u f 8 (.inr (3, [.ref 9, ot, .int (br + nI so)])) := ⟨_, rfl⟩
  rw [← hf1]
  have ho : ∀ z, z ≠ 8 → f1 z = f z := fun z z1 => by rw [hf1, mz_u_n z1]
  have k8 : f1 8 = .inr (3, [.ref 9, ot, .int (br + nI so)]) := by rw [hf1]; exact mz_u_s _ _ _
  have k9 := (ho 9 (by decide)).trans h9
  have k10 := (ho 10 (by decide)).trans h10
  have k1 := (ho d (by omega)).trans h1
  have k2 := (ho a (by omega)).trans h2
  have k3 := (ho o (by omega)).trans h3
  have k4 := (ho b (by omega)).trans h4
  have kC : Cd f1 K s := by rw [hf1]; exact Cd_u hC (by decide) _
  have hid : mz_u (mz_u f1 10 (aQ 6 200 gr)) 9 (.inr (4, [.ref 10, .int (nI 0)])) = f1 := by rw [mz_ui k10, mz_ui k9]
  have := l_Collator_mergeOn G X n f1 (gr := gr) (mgPost f n d a o b K (sz + so) ot (br + nI so) (mgT s fr to c co sz so (sz + so)).2.2) k8 k1 k2 k3 k4 hs kC hP hPo hf ht (by omega) (by omega) (by omega) (by omega) ?_ (sz + so) 0 0 0 gr c (by omega) (by omega) rfl (fun j hj => absurd hj (by omega))
  · rw [hid] at this
    exact this
  · intro g3 c3 i j hT3 hP3
    rw [hT3]
    obtain ⟨H, hH⟩ : ∃ H, H = mz_u (mz_u f1 10 (aQ 6 200 g3)) 9 (.inr (4, [.ref 10, .int (nI (sz + so))])) := ⟨_, rfl⟩
    rw [← hH]
    have hq : ∀ z, z ≠ 9 → z ≠ 10 → H z = f1 z := fun z z1 z2 => by rw [hH, mz_u_n z1, mz_u_n z2]
    have q8 := (hq 8 (by decide) (by decide)).trans k8
    have q1 := (hq d (by omega) (by omega)).trans k1
    have q2 := (hq a (by omega) (by omega)).trans k2
    have q3 := (hq o (by omega) (by omega)).trans k3
    have q9 : H 9 = .inr (4, [.ref 10, .int (nI (sz + so))]) := by rw [hH]; exact mz_u_s _ _ _
    have q10 : H 10 = aQ 6 200 g3 := by rw [hH, mz_u_n (by decide), mz_u_s]
    have qC : Cd H K s := by rw [hH]; exact Cd_u (Cd_u kC (by decide) _) (by decide) _
    refine mz_go [106] 30 ?_
    simp only [mz_run, ev_0, ev_1, ev_2, ev_3, ev_4, ev_5, ev_6, ev_7, ev_8, ev_9, ev_10, ev_11, ev_12, ev_13, ev_14, ev_15, ev_16, ev_17, ev_18, ev_19, ev_20, ev_21, ev_22, ev_23, ev_24, ev_25, ev_26, ev_27, ev_28, ev_29, ev_30, ev_31, ev_32, ev_33, ev_34, ev_35, ev_36, ev_37, ev_38, ev_39, ev_40, ev_41, ev_42, ev_43, ev_44, ev_45, ev_46, ev_47, ev_48, ev_49, ev_50, ev_51, ev_52, ev_53, ev_54, ev_55, ev_56, ev_57, ev_58, ev_59, ev_60, ev_61, ev_62, ev_63, ev_64, ev_65, ev_66, ev_67, ev_68, ev_69, ev_70, ev_71, ev_72, ev_73, ev_74, ev_75, ev_76, ev_77, ev_78, ev_79, ev_80, ev_81, ev_82, ev_83, mk_lit, mk_fin, mk_cat, mk_fit, mk_nar, mk_fld, mk_cls, mk_ty, mk_isr, List.mem_cons, List.not_mem_nil, or_false, or_true, false_or, true_or, Nat.reduceEqDiff, Nat.reduceAdd, Nat.reduceSub, Nat.reduceLT, Nat.reduceLeDiff, reduceIte, if_true, if_false, List.getElem?_cons_zero, List.getElem?_cons_succ, List.set_cons_zero, List.set_cons_succ, List.length_cons, List.length_nil, mz_s1, mz_s2, mz_cl, true_and, and_true, false_and, and_false, List.append_nil, mk_b0, mk_b1, mk_b2, mk_bn, Value.int.injEq, Option.toList_some, Option.toList_none, List.cons_append, List.nil_append, Classical.not_not, Option.some.injEq, reduceCtorEq, ne_eq, not_true_eq_false, not_false_eq_true, false_implies, true_implies, d_Collator_mergeOn, j_Collator_mergeOn, nF_3, q3, q8, mz_u_n (show 8 ≠ o by omega)]
    obtain ⟨H2, hH2⟩ : ∃ H2, H2 = mz_u H o (.inr (4, [.ref b, .int (nI 0)])) := ⟨_, rfl⟩
    rw [← hH2]
    have ho2 : ∀ z, z ≠ o → H2 z = H z := fun z z1 => by rw [hH2, mz_u_n z1]
    have s1 := (ho2 d hdo).trans q1
    have s2 := (ho2 a (Ne.symm hoa)).trans q2
    have s9 := (ho2 9 (by omega)).trans q9
    have s10 := (ho2 10 (by omega)).trans q10
    have sC : Cd H2 K s := by rw [hH2]; exact Cd_u qC (by omega) _
    refine mz_callV (by simp only [d_Collator_mergeOn, Nat.reduceAdd]) g_3_38 rfl (fun _ _ h => h) (c_Deck_takeAllOf G X n H2 s1 s2 s9 s10 (by omega) (by omega) hs (fun z hz => ⟨_, _, (hP3 z hz).1, (sC _ (hP3 z hz).2).1⟩)) s1 rfl rfl (by decide) (Nat.le_of_ble_eq_true rfl) rfl ?_; intro v_ n_ f_ h_; obtain ⟨rfl, hn_, hf_⟩ := h_; replace hn_ := hn_.symm; replace hf_ := hf_.symm; subst hn_; subst hf_
    refine mz_go [] 30 ?_
    simp only [mz_run, ev_0, ev_1, ev_2, ev_3, ev_4, ev_5, ev_6, ev_7, ev_8, ev_9, ev_10, ev_11, ev_12, ev_13, ev_14, ev_15, ev_16, ev_17, ev_18, ev_19, ev_20, ev_21, ev_22, ev_23, ev_24, ev_25, ev_26, ev_27, ev_28, ev_29, ev_30, ev_31, ev_32, ev_33, ev_34, ev_35, ev_36, ev_37, ev_38, ev_39, ev_40, ev_41, ev_42, ev_43, ev_44, ev_45, ev_46, ev_47, ev_48, ev_49, ev_50, ev_51, ev_52, ev_53, ev_54, ev_55, ev_56, ev_57, ev_58, ev_59, ev_60, ev_61, ev_62, ev_63, ev_64, ev_65, ev_66, ev_67, ev_68, ev_69, ev_70, ev_71, ev_72, ev_73, ev_74, ev_75, ev_76, ev_77, ev_78, ev_79, ev_80, ev_81, ev_82, ev_83, mk_lit, mk_fin, mk_cat, mk_fit, mk_nar, mk_fld, mk_cls, mk_ty, mk_isr, List.mem_cons, List.not_mem_nil, or_false, or_true, false_or, true_or, Nat.reduceEqDiff, Nat.reduceAdd, Nat.reduceSub, Nat.reduceLT, Nat.reduceLeDiff, reduceIte, if_true, if_false, List.getElem?_cons_zero, List.getElem?_cons_succ, List.set_cons_zero, List.set_cons_succ, List.length_cons, List.length_nil, mz_s1, mz_s2, mz_cl, true_and, and_true, false_and, and_false, List.append_nil, mk_b0, mk_b1, mk_b2, mk_bn, Value.int.injEq, Option.toList_some, Option.toList_none, List.cons_append, List.nil_append, Classical.not_not, Option.some.injEq, reduceCtorEq, ne_eq, not_true_eq_false, not_false_eq_true, false_implies, true_implies, d_Collator_mergeOn, j_Collator_mergeOn, nF_3]
    have fin : ∀ z, z ≠ 9 → z ≠ d → z ≠ a → mz_u (mz_u (mz_u H2 a (aQ 6 200 (cpy g3 g (sz + so)))) d (.inr (4, [.ref a, .int (nI (sz + so))]))) 9 (.inr (4, [.ref 10, .int (nI 0)])) z = H2 z := fun z z1 z2 z3 => by rw [mz_u_n z1, mz_u_n z2, mz_u_n z3]
    refine ⟨cpy g3 g (sz + so), g3, rfl, rfl, fun z hz hS => ?_, ?_, mz_u_s _ _ _, ?_, ?_, ?_, ?_, ?_, ?_⟩
    · simp only [List.mem_cons, List.not_mem_nil, or_false, not_or] at hS
      rw [fin z hS.2.1 hS.2.2.2.1 hS.2.2.2.2.1, ho2 z hS.2.2.2.2.2, hq z hS.2.1 hS.2.2.1, ho z hS.1]
    · rw [fin 8 (by decide) (by omega) (by omega), ho2 8 (by omega)]; exact q8
    · rw [fin 10 (by decide) (by omega) (by omega)]; exact s10
    · rw [mz_u_n (by omega), mz_u_s]
    · rw [mz_u_n (by omega), mz_u_n (Ne.symm hda), mz_u_s]
    · rw [fin o (by omega) (Ne.symm hdo) hoa, hH2]; exact mz_u_s _ _ _
    · intro z hz
      rw [cpy_lt hz]; exact hP3 z hz
    · intro z hz
      rw [fin z (by omega) (by omega) (by omega), ho2 z (by omega), hq z (by omega) (by omega), ho z (by omega)]
