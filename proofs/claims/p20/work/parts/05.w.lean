section
theorem c_Office_isDeck (G : mz_G) (X : mz_E) (n : Nat) (f : mz_H) (x : Int32) : mz_Ct G X y_Office_isDeck b_Office_isDeck 1 (some .boolean) (r_Office_isDeck 0 0) [.int x] n f (fun v n' f' => v = some (.int (mk_b (0 ≤ x.toInt ∧ x.toInt < 8))) ∧ n' = n ∧ f' = f) := by
  refine mk_Ct 0 false [some (.int x)] (by decide) rfl (by decide) (Nat.le_of_ble_eq_true rfl) rfl ?_
  refine mz_go [] 12 ?_
  simp only [mz_r0, mk_lit, mk_fin, mk_cat, mk_fit, mk_nar, mk_cls, mk_ty, mk_isr, List.mem_cons, List.not_mem_nil, or_false, or_true, false_or, true_or, Nat.reduceEqDiff, Nat.reduceAdd, Nat.reduceSub, Nat.reduceLT, Nat.reduceLeDiff, ↓reduceIte, if_true, if_false, List.getElem?_cons_zero, List.getElem?_cons_succ, List.set_cons_zero, List.set_cons_succ, List.length_cons, List.length_nil, mz_s1, mz_s2, mz_cl, true_and, and_true, false_and, and_false, List.append_nil, mk_b0, mk_b1, mk_b2, mk_bn, Value.int.injEq, Option.toList_some, Option.toList_none, List.cons_append, List.nil_append, Classical.not_not, Option.some.injEq, reduceCtorEq, ne_eq, not_true_eq_false, not_false_eq_true, false_implies, true_implies, ev_37, ev_53, ev_1, ev_56, ev_0, ev_61, ev_64, mz_rl d_Office_isDeck_0, mz_rl d_Office_isDeck_1, mz_rl d_Office_isDeck_4, mz_rl d_Office_isDeck_5, mz_rl d_Office_isDeck_7, mz_rl d_Office_isDeck_10, mz_rl d_Office_isDeck_11, mz_rl d_Office_isDeck_14, mz_rl d_Office_isDeck_15, j_Office_isDeck_1, j_Office_isDeck_7, j_Office_isDeck_11, nF_0, mk_lt, mk_le, mk_ti]
  omega
theorem c_Office_isBoard (G : mz_G) (X : mz_E) (n : Nat) (f : mz_H) (x : Int32) : mz_Ct G X y_Office_isBoard b_Office_isBoard 1 (some .boolean) (r_Office_isBoard 0 0) [.int x] n f (fun v n' f' => v = some (.int (mk_b (0 ≤ x.toInt ∧ x.toInt < 4))) ∧ n' = n ∧ f' = f) := by
  refine mk_Ct 0 false [some (.int x)] (by decide) rfl (by decide) (Nat.le_of_ble_eq_true rfl) rfl ?_
  refine mz_go [] 12 ?_
  simp only [mz_r0, mk_lit, mk_fin, mk_cat, mk_fit, mk_nar, mk_cls, mk_ty, mk_isr, List.mem_cons, List.not_mem_nil, or_false, or_true, false_or, true_or, Nat.reduceEqDiff, Nat.reduceAdd, Nat.reduceSub, Nat.reduceLT, Nat.reduceLeDiff, ↓reduceIte, if_true, if_false, List.getElem?_cons_zero, List.getElem?_cons_succ, List.set_cons_zero, List.set_cons_succ, List.length_cons, List.length_nil, mz_s1, mz_s2, mz_cl, true_and, and_true, false_and, and_false, List.append_nil, mk_b0, mk_b1, mk_b2, mk_bn, Value.int.injEq, Option.toList_some, Option.toList_none, List.cons_append, List.nil_append, Classical.not_not, Option.some.injEq, reduceCtorEq, ne_eq, not_true_eq_false, not_false_eq_true, false_implies, true_implies, ev_37, ev_53, ev_0, ev_56, ev_61, ev_64, mz_rl d_Office_isBoard_0, mz_rl d_Office_isBoard_1, mz_rl d_Office_isBoard_4, mz_rl d_Office_isBoard_5, mz_rl d_Office_isBoard_6, mz_rl d_Office_isBoard_9, mz_rl d_Office_isBoard_10, mz_rl d_Office_isBoard_13, mz_rl d_Office_isBoard_14, j_Office_isBoard_1, j_Office_isBoard_6, j_Office_isBoard_10, nF_0, mk_lt, mk_le, mk_ti]
  omega
theorem c_Office_isCounter (G : mz_G) (X : mz_E) (n : Nat) (f : mz_H) (x : Int32) : mz_Ct G X y_Office_isCounter b_Office_isCounter 1 (some .boolean) (r_Office_isCounter 0 0) [.int x] n f (fun v n' f' => v = some (.int (mk_b (0 ≤ x.toInt ∧ x.toInt < 4))) ∧ n' = n ∧ f' = f) := by
  refine mk_Ct 0 false [some (.int x)] (by decide) rfl (by decide) (Nat.le_of_ble_eq_true rfl) rfl ?_
  refine mz_go [] 12 ?_
  simp only [mz_r0, mk_lit, mk_fin, mk_cat, mk_fit, mk_nar, mk_cls, mk_ty, mk_isr, List.mem_cons, List.not_mem_nil, or_false, or_true, false_or, true_or, Nat.reduceEqDiff, Nat.reduceAdd, Nat.reduceSub, Nat.reduceLT, Nat.reduceLeDiff, ↓reduceIte, if_true, if_false, List.getElem?_cons_zero, List.getElem?_cons_succ, List.set_cons_zero, List.set_cons_succ, List.length_cons, List.length_nil, mz_s1, mz_s2, mz_cl, true_and, and_true, false_and, and_false, List.append_nil, mk_b0, mk_b1, mk_b2, mk_bn, Value.int.injEq, Option.toList_some, Option.toList_none, List.cons_append, List.nil_append, Classical.not_not, Option.some.injEq, reduceCtorEq, ne_eq, not_true_eq_false, not_false_eq_true, false_implies, true_implies, ev_37, ev_53, ev_0, ev_56, ev_61, ev_64, mz_rl d_Office_isCounter_0, mz_rl d_Office_isCounter_1, mz_rl d_Office_isCounter_4, mz_rl d_Office_isCounter_5, mz_rl d_Office_isCounter_6, mz_rl d_Office_isCounter_9, mz_rl d_Office_isCounter_10, mz_rl d_Office_isCounter_13, mz_rl d_Office_isCounter_14, j_Office_isCounter_1, j_Office_isCounter_6, j_Office_isCounter_10, nF_0, mk_lt, mk_le, mk_ti]
  omega
theorem c_Office_isColumn (G : mz_G) (X : mz_E) (n : Nat) (f : mz_H) (x : Int32) : mz_Ct G X y_Office_isColumn b_Office_isColumn 1 (some .boolean) (r_Office_isColumn 0 0) [.int x] n f (fun v n' f' => v = some (.int (mk_b (0 ≤ x.toInt ∧ x.toInt < 16))) ∧ n' = n ∧ f' = f) := by
  refine mk_Ct 0 false [some (.int x)] (by decide) rfl (by decide) (Nat.le_of_ble_eq_true rfl) rfl ?_
  refine mz_go [] 12 ?_
  simp only [mz_r0, mk_lit, mk_fin, mk_cat, mk_fit, mk_nar, mk_cls, mk_ty, mk_isr, List.mem_cons, List.not_mem_nil, or_false, or_true, false_or, true_or, Nat.reduceEqDiff, Nat.reduceAdd, Nat.reduceSub, Nat.reduceLT, Nat.reduceLeDiff, ↓reduceIte, if_true, if_false, List.getElem?_cons_zero, List.getElem?_cons_succ, List.set_cons_zero, List.set_cons_succ, List.length_cons, List.length_nil, mz_s1, mz_s2, mz_cl, true_and, and_true, false_and, and_false, List.append_nil, mk_b0, mk_b1, mk_b2, mk_bn, Value.int.injEq, Option.toList_some, Option.toList_none, List.cons_append, List.nil_append, Classical.not_not, Option.some.injEq, reduceCtorEq, ne_eq, not_true_eq_false, not_false_eq_true, false_implies, true_implies, ev_37, ev_53, ev_1, ev_56, ev_0, ev_61, ev_64, mz_rl d_Office_isColumn_0, mz_rl d_Office_isColumn_1, mz_rl d_Office_isColumn_4, mz_rl d_Office_isColumn_5, mz_rl d_Office_isColumn_7, mz_rl d_Office_isColumn_10, mz_rl d_Office_isColumn_11, mz_rl d_Office_isColumn_14, mz_rl d_Office_isColumn_15, j_Office_isColumn_1, j_Office_isColumn_7, j_Office_isColumn_11, nF_0, mk_lt, mk_le, mk_ti]
  omega
theorem c_Office_isField (G : mz_G) (X : mz_E) (n : Nat) (f : mz_H) (x y : Int32) : mz_Ct G X y_Office_isField b_Office_isField 2 (some .boolean) (r_Office_isField 0 0) [.int x, .int y] n f (fun v n' f' => v = some (.int (mk_b (0 ≤ x.toInt ∧ x.toInt ≤ y.toInt ∧ y.toInt < 16))) ∧ n' = n ∧ f' = f) := by
  refine mk_Ct 0 false [some (.int x), some (.int y)] (by decide) rfl (by decide) (Nat.le_of_ble_eq_true rfl) rfl ?_
  refine mz_go [] 14 ?_
  simp only [mz_r0, mk_lit, mk_fin, mk_cat, mk_fit, mk_nar, mk_cls, mk_ty, mk_isr, List.mem_cons, List.not_mem_nil, or_false, or_true, false_or, true_or, Nat.reduceEqDiff, Nat.reduceAdd, Nat.reduceSub, Nat.reduceLT, Nat.reduceLeDiff, ↓reduceIte, if_true, if_false, List.getElem?_cons_zero, List.getElem?_cons_succ, List.set_cons_zero, List.set_cons_succ, List.length_cons, List.length_nil, mz_s1, mz_s2, mz_cl, true_and, and_true, false_and, and_false, List.append_nil, mk_b0, mk_b1, mk_b2, mk_bn, Value.int.injEq, Option.toList_some, Option.toList_none, List.cons_append, List.nil_append, Classical.not_not, Option.some.injEq, reduceCtorEq, ne_eq, not_true_eq_false, not_false_eq_true, false_implies, true_implies, ev_37, ev_53, ev_58, ev_1, ev_56, ev_0, ev_61, ev_64, mz_rl d_Office_isField_0, mz_rl d_Office_isField_1, mz_rl d_Office_isField_4, mz_rl d_Office_isField_5, mz_rl d_Office_isField_6, mz_rl d_Office_isField_9, mz_rl d_Office_isField_10, mz_rl d_Office_isField_12, mz_rl d_Office_isField_15, mz_rl d_Office_isField_16, mz_rl d_Office_isField_19, mz_rl d_Office_isField_20, j_Office_isField_1, j_Office_isField_6, j_Office_isField_12, j_Office_isField_16, nF_0, mk_lt, mk_le, mk_ti]
  omega
theorem c_Office_isFromJack (G : mz_G) (X : mz_E) (n : Nat) (f : mz_H) (x : Int32) : mz_Ct G X y_Office_isFromJack b_Office_isFromJack 1 (some .boolean) (r_Office_isFromJack 0 0) [.int x] n f (fun v n' f' => v = some (.int (mk_b (0 ≤ x.toInt ∧ x.toInt < 26 ∨ 32 ≤ x.toInt ∧ x.toInt < 56))) ∧ n' = n ∧ f' = f) := by
  refine mk_Ct 0 false [some (.int x)] (by decide) rfl (by decide) (Nat.le_of_ble_eq_true rfl) rfl ?_
  refine mz_go [] 17 ?_
  simp only [mz_r0, mk_lit, mk_fin, mk_cat, mk_fit, mk_nar, mk_cls, mk_ty, mk_isr, List.mem_cons, List.not_mem_nil, or_false, or_true, false_or, true_or, Nat.reduceEqDiff, Nat.reduceAdd, Nat.reduceSub, Nat.reduceLT, Nat.reduceLeDiff, ↓reduceIte, if_true, if_false, List.getElem?_cons_zero, List.getElem?_cons_succ, List.set_cons_zero, List.set_cons_succ, List.length_cons, List.length_nil, mz_s1, mz_s2, mz_cl, true_and, and_true, false_and, and_false, List.append_nil, mk_b0, mk_b1, mk_b2, mk_bn, Value.int.injEq, Option.toList_some, Option.toList_none, List.cons_append, List.nil_append, Classical.not_not, Option.some.injEq, reduceCtorEq, ne_eq, not_true_eq_false, not_false_eq_true, false_implies, true_implies, ev_37, ev_53, ev_1, ev_54, ev_56, ev_0, ev_61, ev_64, mz_rl d_Office_isFromJack_0, mz_rl d_Office_isFromJack_1, mz_rl d_Office_isFromJack_4, mz_rl d_Office_isFromJack_5, mz_rl d_Office_isFromJack_7, mz_rl d_Office_isFromJack_10, mz_rl d_Office_isFromJack_11, mz_rl d_Office_isFromJack_13, mz_rl d_Office_isFromJack_16, mz_rl d_Office_isFromJack_17, mz_rl d_Office_isFromJack_19, mz_rl d_Office_isFromJack_22, mz_rl d_Office_isFromJack_23, mz_rl d_Office_isFromJack_26, mz_rl d_Office_isFromJack_27, j_Office_isFromJack_1, j_Office_isFromJack_7, j_Office_isFromJack_13, j_Office_isFromJack_19, j_Office_isFromJack_23, nF_0, mk_lt, mk_le, mk_ti]
  omega
theorem c_Office_isSign (G : mz_G) (X : mz_E) (n : Nat) (f : mz_H) (x : Int32) : mz_Ct G X y_Office_isSign b_Office_isSign 1 (some .boolean) (r_Office_isSign 0 0) [.int x] n f (fun v n' f' => v = some (.int (mk_b (x.toInt = 32 ∨ 48 ≤ x.toInt ∧ x.toInt ≤ 57 ∨ 65 ≤ x.toInt ∧ x.toInt ≤ 90))) ∧ n' = n ∧ f' = f) := by
  refine mk_Ct 0 false [some (.int x)] (by decide) rfl (by decide) (Nat.le_of_ble_eq_true rfl) rfl ?_
  refine mz_go [] 20 ?_
  simp only [mz_r0, mk_lit, mk_fin, mk_cat, mk_fit, mk_nar, mk_cls, mk_ty, mk_isr, List.mem_cons, List.not_mem_nil, or_false, or_true, false_or, true_or, Nat.reduceEqDiff, Nat.reduceAdd, Nat.reduceSub, Nat.reduceLT, Nat.reduceLeDiff, ↓reduceIte, if_true, if_false, List.getElem?_cons_zero, List.getElem?_cons_succ, List.set_cons_zero, List.set_cons_succ, List.length_cons, List.length_nil, mz_s1, mz_s2, mz_cl, true_and, and_true, false_and, and_false, List.append_nil, mk_b0, mk_b1, mk_b2, mk_bn, Value.int.injEq, Option.toList_some, Option.toList_none, List.cons_append, List.nil_append, Classical.not_not, Option.some.injEq, reduceCtorEq, ne_eq, not_true_eq_false, not_false_eq_true, false_implies, true_implies, ev_37, ev_1, ev_50, ev_54, ev_60, ev_58, ev_0, ev_61, ev_64, mz_rl d_Office_isSign_0, mz_rl d_Office_isSign_1, mz_rl d_Office_isSign_3, mz_rl d_Office_isSign_6, mz_rl d_Office_isSign_7, mz_rl d_Office_isSign_9, mz_rl d_Office_isSign_12, mz_rl d_Office_isSign_13, mz_rl d_Office_isSign_15, mz_rl d_Office_isSign_18, mz_rl d_Office_isSign_19, mz_rl d_Office_isSign_21, mz_rl d_Office_isSign_24, mz_rl d_Office_isSign_25, mz_rl d_Office_isSign_27, mz_rl d_Office_isSign_30, mz_rl d_Office_isSign_31, mz_rl d_Office_isSign_34, mz_rl d_Office_isSign_35, j_Office_isSign_3, j_Office_isSign_9, j_Office_isSign_15, j_Office_isSign_21, j_Office_isSign_27, j_Office_isSign_31, nF_0, mk_lt, mk_le, mk_eq x (nI 32), mk_ti]
  omega
theorem c_Office_areTwoDecks (G : mz_G) (X : mz_E) (n : Nat) (f : mz_H) (x y : Int32) : mz_Ct G X y_Office_areTwoDecks b_Office_areTwoDecks 2 (some .boolean) (r_Office_areTwoDecks 0 0) [.int x, .int y] n f (fun v n' f' => v = some (.int (mk_b ((0 ≤ x.toInt ∧ x.toInt < 8) ∧ (0 ≤ y.toInt ∧ y.toInt < 8) ∧ x.toInt ≠ y.toInt))) ∧ n' = n ∧ f' = f) := by
  refine mk_Ct 0 false [some (.int x), some (.int y)] (by decide) rfl (by decide) (Nat.le_of_ble_eq_true rfl) rfl ?_
  refine mz_go [1] 4 ?_
  simp only [mz_r0, mk_lit, mk_fin, mk_cat, mk_fit, mk_nar, mk_cls, mk_ty, mk_isr, List.mem_cons, List.not_mem_nil, or_false, or_true, false_or, true_or, Nat.reduceEqDiff, Nat.reduceAdd, Nat.reduceSub, Nat.reduceLT, Nat.reduceLeDiff, ↓reduceIte, if_true, if_false, List.getElem?_cons_zero, List.getElem?_cons_succ, List.set_cons_zero, List.set_cons_succ, List.length_cons, List.length_nil, mz_s1, mz_s2, mz_cl, true_and, and_true, false_and, and_false, List.append_nil, mk_b0, mk_b1, mk_b2, mk_bn, Value.int.injEq, Option.toList_some, Option.toList_none, List.cons_append, List.nil_append, Classical.not_not, Option.some.injEq, reduceCtorEq, ne_eq, not_true_eq_false, not_false_eq_true, false_implies, true_implies, ev_37, mz_rl d_Office_areTwoDecks_0, nF_0]
  refine mz_callS (by simp only [d_Office_areTwoDecks_1, Nat.reduceAdd]) g_0_62 rfl (fun _ _ h => h) (c_Office_isDeck G X n f x) (by decide) (Nat.le_of_ble_eq_true rfl) rfl ?_; intro v_ n_ f_ h_; obtain ⟨rfl, hn_, hf_⟩ := h_; replace hn_ := hn_.symm; replace hf_ := hf_.symm; subst hn_; subst hf_
  refine mz_go [8] 12 ?_
  simp only [mz_r0, mk_lit, mk_fin, mk_cat, mk_fit, mk_nar, mk_cls, mk_ty, mk_isr, List.mem_cons, List.not_mem_nil, or_false, or_true, false_or, true_or, Nat.reduceEqDiff, Nat.reduceAdd, Nat.reduceSub, Nat.reduceLT, Nat.reduceLeDiff, ↓reduceIte, if_true, if_false, List.getElem?_cons_zero, List.getElem?_cons_succ, List.set_cons_zero, List.set_cons_succ, List.length_cons, List.length_nil, mz_s1, mz_s2, mz_cl, true_and, and_true, false_and, and_false, List.append_nil, mk_b0, mk_b1, mk_b2, mk_bn, Value.int.injEq, Option.toList_some, Option.toList_none, List.cons_append, List.nil_append, Classical.not_not, Option.some.injEq, reduceCtorEq, ne_eq, not_true_eq_false, not_false_eq_true, false_implies, true_implies, ev_49, ev_37, ev_0, ev_64, mz_rl d_Office_areTwoDecks_4, mz_rl d_Office_areTwoDecks_7, mz_rl d_Office_areTwoDecks_23, mz_rl d_Office_areTwoDecks_24, j_Office_areTwoDecks_4, nF_0]
  refine ⟨fun h => by omega, fun h => ?_⟩
  refine mz_callS (by simp only [d_Office_areTwoDecks_8, Nat.reduceAdd]) g_0_62 rfl (fun _ _ h => h) (c_Office_isDeck G X _ _ y) (by decide) (Nat.le_of_ble_eq_true rfl) rfl ?_; intro v_ n_ f_ h_; obtain ⟨rfl, hn_, hf_⟩ := h_; replace hn_ := hn_.symm; replace hf_ := hf_.symm; subst hn_; subst hf_
  refine mz_go [] 12 ?_
  simp only [mz_r0, mk_lit, mk_fin, mk_cat, mk_fit, mk_nar, mk_cls, mk_ty, mk_isr, List.mem_cons, List.not_mem_nil, or_false, or_true, false_or, true_or, Nat.reduceEqDiff, Nat.reduceAdd, Nat.reduceSub, Nat.reduceLT, Nat.reduceLeDiff, ↓reduceIte, if_true, if_false, List.getElem?_cons_zero, List.getElem?_cons_succ, List.set_cons_zero, List.set_cons_succ, List.length_cons, List.length_nil, mz_s1, mz_s2, mz_cl, true_and, and_true, false_and, and_false, List.append_nil, mk_b0, mk_b1, mk_b2, mk_bn, Value.int.injEq, Option.toList_some, Option.toList_none, List.cons_append, List.nil_append, Classical.not_not, Option.some.injEq, reduceCtorEq, ne_eq, not_true_eq_false, not_false_eq_true, false_implies, true_implies, ev_49, ev_37, ev_50, ev_0, ev_61, ev_64, mz_rl d_Office_areTwoDecks_11, mz_rl d_Office_areTwoDecks_14, mz_rl d_Office_areTwoDecks_15, mz_rl d_Office_areTwoDecks_16, mz_rl d_Office_areTwoDecks_19, mz_rl d_Office_areTwoDecks_20, mz_rl d_Office_areTwoDecks_23, mz_rl d_Office_areTwoDecks_24, j_Office_areTwoDecks_11, j_Office_areTwoDecks_16, j_Office_areTwoDecks_20, nF_0, mk_eq x y]
  omega
end
section
theorem mk_nat {x : Int32} {N : Nat} (h0 : 0 ≤ x.toInt) (h : x.toInt < N) (hN : N ≤ 2 ^ 31) : ∃ j : Nat, j < N ∧ x = nI j := by
  refine ⟨x.toInt.toNat, by omega, ?_⟩
  rw [← Int32.toInt_inj, nI_toInt (by omega)]
  omega
theorem mk_nti {k : Nat} (h : k < 2 ^ 31) : (nI k).toInt = (k : Int) := nI_toInt h
def sg (c : Nat) : Prop := c = 32 ∨ 48 ≤ c ∧ c ≤ 57 ∨ 65 ≤ c ∧ c ≤ 90
def dgN (c : Nat) : Nat := if 83 ≤ c then c - 81 else if 74 ≤ c then c - 73 else if 65 ≤ c then c - 64 else c - 48
def dg (c : Nat) : Int32 := if c = 32 then -1 else nI (dgN c)
def zn (c : Nat) : Nat := if 83 ≤ c then 1 else if 74 ≤ c then 2 else if 65 ≤ c then 3 else 0
def dp (c : Nat) : Nat := if c = 32 then 0 else dgN c + 1
def rk (c : Nat) : Nat := zn c * 11 + dp c
theorem sg_lt {c : Nat} (h : sg c) : c < 91 := by unfold sg at h; omega
theorem c_Office_isToJack (G : mz_G) (X : mz_E) (n : Nat) (f : mz_H) (x : Int32) : mz_Ct G X y_Office_isToJack b_Office_isToJack 1 (some .boolean) (r_Office_isToJack 0 0) [.int x] n f (fun v n' f' => v = some (.int (mk_b ((0 ≤ x.toInt ∧ x.toInt < 16) ∨ 32 ≤ x.toInt ∧ x.toInt < 56 ∨ 64 ≤ x.toInt ∧ x.toInt < 88 ∨ 96 ≤ x.toInt ∧ x.toInt < 100))) ∧ n' = n ∧ f' = f) := by
  refine mk_Ct 0 false [some (.int x)] (by decide) rfl (by decide) (Nat.le_of_ble_eq_true rfl) rfl ?_
  refine mz_go [1] 4 ?_
  simp only [mz_r0, mk_lit, mk_fin, mk_cat, mk_fit, mk_nar, mk_cls, mk_ty, mk_isr, List.mem_cons, List.not_mem_nil, or_false, or_true, false_or, true_or, Nat.reduceEqDiff, Nat.reduceAdd, Nat.reduceSub, Nat.reduceLT, Nat.reduceLeDiff, ↓reduceIte, if_true, if_false, List.getElem?_cons_zero, List.getElem?_cons_succ, List.set_cons_zero, List.set_cons_succ, List.length_cons, List.length_nil, mz_s1, mz_s2, mz_cl, true_and, and_true, false_and, and_false, List.append_nil, mk_b0, mk_b1, mk_b2, mk_bn, Value.int.injEq, Option.toList_some, Option.toList_none, List.cons_append, List.nil_append, Classical.not_not, Option.some.injEq, reduceCtorEq, ne_eq, not_true_eq_false, not_false_eq_true, false_implies, true_implies, ev_37, mz_rl d_Office_isToJack_0, nF_0]
  refine mz_callS (by simp only [d_Office_isToJack_1, Nat.reduceAdd]) g_0_106 rfl (fun _ _ h => h) (c_Office_isColumn G X n f x) (by decide) (Nat.le_of_ble_eq_true rfl) rfl ?_; intro v_ n_ f_ h_; obtain ⟨rfl, hn_, hf_⟩ := h_; replace hn_ := hn_.symm; replace hf_ := hf_.symm; subst hn_; subst hf_
  refine mz_go [] 30 ?_
  simp only [mz_r0, mk_lit, mk_fin, mk_cat, mk_fit, mk_nar, mk_cls, mk_ty, mk_isr, List.mem_cons, List.not_mem_nil, or_false, or_true, false_or, true_or, Nat.reduceEqDiff, Nat.reduceAdd, Nat.reduceSub, Nat.reduceLT, Nat.reduceLeDiff, ↓reduceIte, if_true, if_false, List.getElem?_cons_zero, List.getElem?_cons_succ, List.set_cons_zero, List.set_cons_succ, List.length_cons, List.length_nil, mz_s1, mz_s2, mz_cl, true_and, and_true, false_and, and_false, List.append_nil, mk_b0, mk_b1, mk_b2, mk_bn, Value.int.injEq, Option.toList_some, Option.toList_none, List.cons_append, List.nil_append, Classical.not_not, Option.some.injEq, reduceCtorEq, ne_eq, not_true_eq_false, not_false_eq_true, false_implies, true_implies, ev_51, ev_37, ev_1, ev_54, ev_58, ev_0, ev_61, ev_64, mz_rl d_Office_isToJack_4, mz_rl d_Office_isToJack_7, mz_rl d_Office_isToJack_8, mz_rl d_Office_isToJack_10, mz_rl d_Office_isToJack_13, mz_rl d_Office_isToJack_14, mz_rl d_Office_isToJack_16, mz_rl d_Office_isToJack_19, mz_rl d_Office_isToJack_20, mz_rl d_Office_isToJack_22, mz_rl d_Office_isToJack_25, mz_rl d_Office_isToJack_26, mz_rl d_Office_isToJack_28, mz_rl d_Office_isToJack_31, mz_rl d_Office_isToJack_32, mz_rl d_Office_isToJack_34, mz_rl d_Office_isToJack_37, mz_rl d_Office_isToJack_38, mz_rl d_Office_isToJack_40, mz_rl d_Office_isToJack_43, mz_rl d_Office_isToJack_44, mz_rl d_Office_isToJack_47, mz_rl d_Office_isToJack_48, j_Office_isToJack_4, j_Office_isToJack_10, j_Office_isToJack_16, j_Office_isToJack_22, j_Office_isToJack_28, j_Office_isToJack_34, j_Office_isToJack_40, j_Office_isToJack_44, nF_0, mk_lt, mk_le, mk_ti]
  omega
theorem mk_ne16 : ¬ nI 16 = 0 := by decide
theorem c_Office_startOf (G : mz_G) (X : mz_E) (n : Nat) (f : mz_H) {x : Nat} (hx : x < 96) : mz_Ct G X y_Office_startOf b_Office_startOf 1 (some .int) (r_Office_startOf 0 0) [.int (nI x)] n f (fun v n' f' => v = some (.int (nI (x % 16))) ∧ n' = n ∧ f' = f) := by
  refine mk_Ct 0 false [some (.int (nI x))] (by decide) rfl (by decide) (Nat.le_of_ble_eq_true rfl) rfl ?_
  refine mz_go [] 12 ?_
  simp only [mz_r0, mk_lit, mk_fin, mk_cat, mk_fit, mk_nar, mk_cls, mk_ty, mk_isr, List.mem_cons, List.not_mem_nil, or_false, or_true, false_or, true_or, Nat.reduceEqDiff, Nat.reduceAdd, Nat.reduceSub, Nat.reduceLT, Nat.reduceLeDiff, ↓reduceIte, if_true, if_false, List.getElem?_cons_zero, List.getElem?_cons_succ, List.set_cons_zero, List.set_cons_succ, List.length_cons, List.length_nil, mz_s1, mz_s2, mz_cl, true_and, and_true, false_and, and_false, List.append_nil, mk_b0, mk_b1, mk_b2, mk_bn, Value.int.injEq, Option.toList_some, Option.toList_none, List.cons_append, List.nil_append, Classical.not_not, Option.some.injEq, reduceCtorEq, ne_eq, not_true_eq_false, not_false_eq_true, false_implies, true_implies, ev_37, ev_1, ev_14, ev_64, mz_rl d_Office_startOf_0, mz_rl d_Office_startOf_1, mz_rl d_Office_startOf_3, mz_rl d_Office_startOf_4, nF_0, mk_ne16, pk_rem (show x < 2 ^ 31 by omega) (show 0 < 16 by decide) (show 16 < 2 ^ 31 by decide)]
theorem c_Office_widthOf (G : mz_G) (X : mz_E) (n : Nat) (f : mz_H) {x : Nat} (hx : x < 96) : mz_Ct G X y_Office_widthOf b_Office_widthOf 1 (some .int) (r_Office_widthOf 0 0) [.int (nI x)] n f (fun v n' f' => v = some (.int (nI (x / 16 + 1))) ∧ n' = n ∧ f' = f) := by
  refine mk_Ct 0 false [some (.int (nI x))] (by decide) rfl (by decide) (Nat.le_of_ble_eq_true rfl) rfl ?_
  refine mz_go [] 12 ?_
  simp only [mz_r0, mk_lit, mk_fin, mk_cat, mk_fit, mk_nar, mk_cls, mk_ty, mk_isr, List.mem_cons, List.not_mem_nil, or_false, or_true, false_or, true_or, Nat.reduceEqDiff, Nat.reduceAdd, Nat.reduceSub, Nat.reduceLT, Nat.reduceLeDiff, ↓reduceIte, if_true, if_false, List.getElem?_cons_zero, List.getElem?_cons_succ, List.set_cons_zero, List.set_cons_succ, List.length_cons, List.length_nil, mz_s1, mz_s2, mz_cl, true_and, and_true, false_and, and_false, List.append_nil, mk_b0, mk_b1, mk_b2, mk_bn, Value.int.injEq, Option.toList_some, Option.toList_none, List.cons_append, List.nil_append, Classical.not_not, Option.some.injEq, reduceCtorEq, ne_eq, not_true_eq_false, not_false_eq_true, false_implies, true_implies, ev_37, ev_1, ev_13, ev_0, ev_5, ev_64, mz_rl d_Office_widthOf_0, mz_rl d_Office_widthOf_1, mz_rl d_Office_widthOf_3, mz_rl d_Office_widthOf_4, mz_rl d_Office_widthOf_5, mz_rl d_Office_widthOf_6, nF_0, mk_ne16, pk_div (show x < 2 ^ 31 by omega) (show 0 < 16 by decide) (show 16 < 2 ^ 31 by decide), nI_add]
theorem c_Office_endOf (G : mz_G) (X : mz_E) (n : Nat) (f : mz_H) {x : Nat} (hx : x < 96) : mz_Ct G X y_Office_endOf b_Office_endOf 1 (some .int) (r_Office_endOf 0 0) [.int (nI x)] n f (fun v n' f' => v = some (.int (nI (x % 16 + (x / 16 + 1)))) ∧ n' = n ∧ f' = f) := by
  refine mk_Ct 0 false [some (.int (nI x))] (by decide) rfl (by decide) (Nat.le_of_ble_eq_true rfl) rfl ?_
  refine mz_go [1] 4 ?_
  simp only [mz_r0, mk_lit, mk_fin, mk_cat, mk_fit, mk_nar, mk_cls, mk_ty, mk_isr, List.mem_cons, List.not_mem_nil, or_false, or_true, false_or, true_or, Nat.reduceEqDiff, Nat.reduceAdd, Nat.reduceSub, Nat.reduceLT, Nat.reduceLeDiff, ↓reduceIte, if_true, if_false, List.getElem?_cons_zero, List.getElem?_cons_succ, List.set_cons_zero, List.set_cons_succ, List.length_cons, List.length_nil, mz_s1, mz_s2, mz_cl, true_and, and_true, false_and, and_false, List.append_nil, mk_b0, mk_b1, mk_b2, mk_bn, Value.int.injEq, Option.toList_some, Option.toList_none, List.cons_append, List.nil_append, Classical.not_not, Option.some.injEq, reduceCtorEq, ne_eq, not_true_eq_false, not_false_eq_true, false_implies, true_implies, ev_37, mz_rl d_Office_endOf_0, nF_0]
  refine mz_callS (by simp only [d_Office_endOf_1, Nat.reduceAdd]) g_0_238 rfl (fun _ _ h => h) (c_Office_startOf G X n f hx) (by decide) (Nat.le_of_ble_eq_true rfl) rfl ?_; intro v_ n_ f_ h_; obtain ⟨rfl, hn_, hf_⟩ := h_; replace hn_ := hn_.symm; replace hf_ := hf_.symm; subst hn_; subst hf_
  refine mz_go [5] 4 ?_
  simp only [mz_r0, mk_lit, mk_fin, mk_cat, mk_fit, mk_nar, mk_cls, mk_ty, mk_isr, List.mem_cons, List.not_mem_nil, or_false, or_true, false_or, true_or, Nat.reduceEqDiff, Nat.reduceAdd, Nat.reduceSub, Nat.reduceLT, Nat.reduceLeDiff, ↓reduceIte, if_true, if_false, List.getElem?_cons_zero, List.getElem?_cons_succ, List.set_cons_zero, List.set_cons_succ, List.length_cons, List.length_nil, mz_s1, mz_s2, mz_cl, true_and, and_true, false_and, and_false, List.append_nil, mk_b0, mk_b1, mk_b2, mk_bn, Value.int.injEq, Option.toList_some, Option.toList_none, List.cons_append, List.nil_append, Classical.not_not, Option.some.injEq, reduceCtorEq, ne_eq, not_true_eq_false, not_false_eq_true, false_implies, true_implies, ev_37, mz_rl d_Office_endOf_4, nF_0]
  refine mz_callS (by simp only [d_Office_endOf_5, Nat.reduceAdd]) g_0_241 rfl (fun _ _ h => h) (c_Office_widthOf G X _ _ hx) (by decide) (Nat.le_of_ble_eq_true rfl) rfl ?_; intro v_ n_ f_ h_; obtain ⟨rfl, hn_, hf_⟩ := h_; replace hn_ := hn_.symm; replace hf_ := hf_.symm; subst hn_; subst hf_
  refine mz_go [] 4 ?_
  simp only [mz_r0, mk_lit, mk_fin, mk_cat, mk_fit, mk_nar, mk_cls, mk_ty, mk_isr, List.mem_cons, List.not_mem_nil, or_false, or_true, false_or, true_or, Nat.reduceEqDiff, Nat.reduceAdd, Nat.reduceSub, Nat.reduceLT, Nat.reduceLeDiff, ↓reduceIte, if_true, if_false, List.getElem?_cons_zero, List.getElem?_cons_succ, List.set_cons_zero, List.set_cons_succ, List.length_cons, List.length_nil, mz_s1, mz_s2, mz_cl, true_and, and_true, false_and, and_false, List.append_nil, mk_b0, mk_b1, mk_b2, mk_bn, Value.int.injEq, Option.toList_some, Option.toList_none, List.cons_append, List.nil_append, Classical.not_not, Option.some.injEq, reduceCtorEq, ne_eq, not_true_eq_false, not_false_eq_true, false_implies, true_implies, ev_5, ev_64, mz_rl d_Office_endOf_8, mz_rl d_Office_endOf_9, nF_0, nI_add]
theorem c_Office_isFactorField (G : mz_G) (X : mz_E) (n : Nat) (f : mz_H) (x : Int32) : mz_Ct G X y_Office_isFactorField b_Office_isFactorField 1 (some .boolean) (r_Office_isFactorField 0 0) [.int x] n f (fun v n' f' => v = some (.int (mk_b (0 ≤ x.toInt ∧ x.toInt < 96 ∧ x.toInt % 16 + x.toInt / 16 < 16))) ∧ n' = n ∧ f' = f) := by
  refine mk_Ct 0 false [some (.int x)] (by decide) rfl (by decide) (Nat.le_of_ble_eq_true rfl) rfl ?_
  refine mz_go [11] 12 ?_
  simp only [mz_r0, mk_lit, mk_fin, mk_cat, mk_fit, mk_nar, mk_cls, mk_ty, mk_isr, List.mem_cons, List.not_mem_nil, or_false, or_true, false_or, true_or, Nat.reduceEqDiff, Nat.reduceAdd, Nat.reduceSub, Nat.reduceLT, Nat.reduceLeDiff, ↓reduceIte, if_true, if_false, List.getElem?_cons_zero, List.getElem?_cons_succ, List.set_cons_zero, List.set_cons_succ, List.length_cons, List.length_nil, mz_s1, mz_s2, mz_cl, true_and, and_true, false_and, and_false, List.append_nil, mk_b0, mk_b1, mk_b2, mk_bn, Value.int.injEq, Option.toList_some, Option.toList_none, List.cons_append, List.nil_append, Classical.not_not, Option.some.injEq, reduceCtorEq, ne_eq, not_true_eq_false, not_false_eq_true, false_implies, true_implies, ev_37, ev_53, ev_1, ev_56, ev_0, ev_64, mz_rl d_Office_isFactorField_0, mz_rl d_Office_isFactorField_1, mz_rl d_Office_isFactorField_4, mz_rl d_Office_isFactorField_5, mz_rl d_Office_isFactorField_7, mz_rl d_Office_isFactorField_10, mz_rl d_Office_isFactorField_23, mz_rl d_Office_isFactorField_24, j_Office_isFactorField_1, j_Office_isFactorField_7, nF_0, mk_lt, mk_le, mk_ti]
  refine ⟨fun h => by omega, fun h => ⟨fun h2 => by omega, fun h2 => ?_⟩⟩
  obtain ⟨j, hj, rfl⟩ := mk_nat (x := x) (N := 96) (by omega) (by omega) (by decide)
  refine mz_callS (by simp only [d_Office_isFactorField_11, Nat.reduceAdd]) g_0_234 rfl (fun _ _ h => h) (c_Office_endOf G X n f hj) (by decide) (Nat.le_of_ble_eq_true rfl) rfl ?_; intro v_ n_ f_ h_; obtain ⟨rfl, hn_, hf_⟩ := h_; replace hn_ := hn_.symm; replace hf_ := hf_.symm; subst hn_; subst hf_
  refine mz_go [] 12 ?_
  simp only [mz_r0, mk_lit, mk_fin, mk_cat, mk_fit, mk_nar, mk_cls, mk_ty, mk_isr, List.mem_cons, List.not_mem_nil, or_false, or_true, false_or, true_or, Nat.reduceEqDiff, Nat.reduceAdd, Nat.reduceSub, Nat.reduceLT, Nat.reduceLeDiff, ↓reduceIte, if_true, if_false, List.getElem?_cons_zero, List.getElem?_cons_succ, List.set_cons_zero, List.set_cons_succ, List.length_cons, List.length_nil, mz_s1, mz_s2, mz_cl, true_and, and_true, false_and, and_false, List.append_nil, mk_b0, mk_b1, mk_b2, mk_bn, Value.int.injEq, Option.toList_some, Option.toList_none, List.cons_append, List.nil_append, Classical.not_not, Option.some.injEq, reduceCtorEq, ne_eq, not_true_eq_false, not_false_eq_true, false_implies, true_implies, ev_1, ev_58, ev_0, ev_61, ev_64, mz_rl d_Office_isFactorField_14, mz_rl d_Office_isFactorField_16, mz_rl d_Office_isFactorField_19, mz_rl d_Office_isFactorField_20, mz_rl d_Office_isFactorField_23, mz_rl d_Office_isFactorField_24, j_Office_isFactorField_16, j_Office_isFactorField_20, nF_0, mk_lt, mk_le, mk_ti, mk_nti (show j < 2 ^ 31 by omega), mk_nti (show j % 16 + (j / 16 + 1) < 2 ^ 31 by omega)]
  omega
theorem c_Office_haveCommonColumn (G : mz_G) (X : mz_E) (n : Nat) (f : mz_H) {x y : Nat} (hx : x < 96) (hy : y < 96) : mz_Ct G X y_Office_haveCommonColumn b_Office_haveCommonColumn 2 (some .boolean) (r_Office_haveCommonColumn 0 0) [.int (nI x), .int (nI y)] n f (fun v n' f' => v = some (.int (mk_b (x % 16 < y % 16 + (y / 16 + 1) ∧ y % 16 < x % 16 + (x / 16 + 1)))) ∧ n' = n ∧ f' = f) := by
  refine mk_Ct 0 false [some (.int (nI x)), some (.int (nI y))] (by decide) rfl (by decide) (Nat.le_of_ble_eq_true rfl) rfl ?_
  refine mz_go [1] 4 ?_
  simp only [mz_r0, mk_lit, mk_fin, mk_cat, mk_fit, mk_nar, mk_cls, mk_ty, mk_isr, List.mem_cons, List.not_mem_nil, or_false, or_true, false_or, true_or, Nat.reduceEqDiff, Nat.reduceAdd, Nat.reduceSub, Nat.reduceLT, Nat.reduceLeDiff, ↓reduceIte, if_true, if_false, List.getElem?_cons_zero, List.getElem?_cons_succ, List.set_cons_zero, List.set_cons_succ, List.length_cons, List.length_nil, mz_s1, mz_s2, mz_cl, true_and, and_true, false_and, and_false, List.append_nil, mk_b0, mk_b1, mk_b2, mk_bn, Value.int.injEq, Option.toList_some, Option.toList_none, List.cons_append, List.nil_append, Classical.not_not, Option.some.injEq, reduceCtorEq, ne_eq, not_true_eq_false, not_false_eq_true, false_implies, true_implies, ev_37, mz_rl d_Office_haveCommonColumn_0, nF_0]
  refine mz_callS (by simp only [d_Office_haveCommonColumn_1, Nat.reduceAdd]) g_0_238 rfl (fun _ _ h => h) (c_Office_startOf G X n f hx) (by decide) (Nat.le_of_ble_eq_true rfl) rfl ?_; intro v_ n_ f_ h_; obtain ⟨rfl, hn_, hf_⟩ := h_; replace hn_ := hn_.symm; replace hf_ := hf_.symm; subst hn_; subst hf_
  refine mz_go [5] 4 ?_
  simp only [mz_r0, mk_lit, mk_fin, mk_cat, mk_fit, mk_nar, mk_cls, mk_ty, mk_isr, List.mem_cons, List.not_mem_nil, or_false, or_true, false_or, true_or, Nat.reduceEqDiff, Nat.reduceAdd, Nat.reduceSub, Nat.reduceLT, Nat.reduceLeDiff, ↓reduceIte, if_true, if_false, List.getElem?_cons_zero, List.getElem?_cons_succ, List.set_cons_zero, List.set_cons_succ, List.length_cons, List.length_nil, mz_s1, mz_s2, mz_cl, true_and, and_true, false_and, and_false, List.append_nil, mk_b0, mk_b1, mk_b2, mk_bn, Value.int.injEq, Option.toList_some, Option.toList_none, List.cons_append, List.nil_append, Classical.not_not, Option.some.injEq, reduceCtorEq, ne_eq, not_true_eq_false, not_false_eq_true, false_implies, true_implies, ev_37, mz_rl d_Office_haveCommonColumn_4, nF_0]
  refine mz_callS (by simp only [d_Office_haveCommonColumn_5, Nat.reduceAdd]) g_0_234 rfl (fun _ _ h => h) (c_Office_endOf G X _ _ hy) (by decide) (Nat.le_of_ble_eq_true rfl) rfl ?_; intro v_ n_ f_ h_; obtain ⟨rfl, hn_, hf_⟩ := h_; replace hn_ := hn_.symm; replace hf_ := hf_.symm; subst hn_; subst hf_
  refine mz_go [12] 12 ?_
  simp only [mz_r0, mk_lit, mk_fin, mk_cat, mk_fit, mk_nar, mk_cls, mk_ty, mk_isr, List.mem_cons, List.not_mem_nil, or_false, or_true, false_or, true_or, Nat.reduceEqDiff, Nat.reduceAdd, Nat.reduceSub, Nat.reduceLT, Nat.reduceLeDiff, ↓reduceIte, if_true, if_false, List.getElem?_cons_zero, List.getElem?_cons_succ, List.set_cons_zero, List.set_cons_succ, List.length_cons, List.length_nil, mz_s1, mz_s2, mz_cl, true_and, and_true, false_and, and_false, List.append_nil, mk_b0, mk_b1, mk_b2, mk_bn, Value.int.injEq, Option.toList_some, Option.toList_none, List.cons_append, List.nil_append, Classical.not_not, Option.some.injEq, reduceCtorEq, ne_eq, not_true_eq_false, not_false_eq_true, false_implies, true_implies, ev_56, ev_37, ev_0, ev_64, mz_rl d_Office_haveCommonColumn_8, mz_rl d_Office_haveCommonColumn_11, mz_rl d_Office_haveCommonColumn_26, mz_rl d_Office_haveCommonColumn_27, j_Office_haveCommonColumn_8, nF_0, mk_lt, mk_le, mk_ti, mk_nti (show x % 16 < 2 ^ 31 by omega), mk_nti (show y % 16 + (y / 16 + 1) < 2 ^ 31 by omega)]
  refine ⟨fun h => by omega, fun h => ?_⟩
  refine mz_callS (by simp only [d_Office_haveCommonColumn_12, Nat.reduceAdd]) g_0_238 rfl (fun _ _ h => h) (c_Office_startOf G X _ _ hy) (by decide) (Nat.le_of_ble_eq_true rfl) rfl ?_; intro v_ n_ f_ h_; obtain ⟨rfl, hn_, hf_⟩ := h_; replace hn_ := hn_.symm; replace hf_ := hf_.symm; subst hn_; subst hf_
  refine mz_go [16] 4 ?_
  simp only [mz_r0, mk_lit, mk_fin, mk_cat, mk_fit, mk_nar, mk_cls, mk_ty, mk_isr, List.mem_cons, List.not_mem_nil, or_false, or_true, false_or, true_or, Nat.reduceEqDiff, Nat.reduceAdd, Nat.reduceSub, Nat.reduceLT, Nat.reduceLeDiff, ↓reduceIte, if_true, if_false, List.getElem?_cons_zero, List.getElem?_cons_succ, List.set_cons_zero, List.set_cons_succ, List.length_cons, List.length_nil, mz_s1, mz_s2, mz_cl, true_and, and_true, false_and, and_false, List.append_nil, mk_b0, mk_b1, mk_b2, mk_bn, Value.int.injEq, Option.toList_some, Option.toList_none, List.cons_append, List.nil_append, Classical.not_not, Option.some.injEq, reduceCtorEq, ne_eq, not_true_eq_false, not_false_eq_true, false_implies, true_implies, ev_37, mz_rl d_Office_haveCommonColumn_15, nF_0]
  refine mz_callS (by simp only [d_Office_haveCommonColumn_16, Nat.reduceAdd]) g_0_234 rfl (fun _ _ h => h) (c_Office_endOf G X _ _ hx) (by decide) (Nat.le_of_ble_eq_true rfl) rfl ?_; intro v_ n_ f_ h_; obtain ⟨rfl, hn_, hf_⟩ := h_; replace hn_ := hn_.symm; replace hf_ := hf_.symm; subst hn_; subst hf_
  refine mz_go [] 12 ?_
  simp only [mz_r0, mk_lit, mk_fin, mk_cat, mk_fit, mk_nar, mk_cls, mk_ty, mk_isr, List.mem_cons, List.not_mem_nil, or_false, or_true, false_or, true_or, Nat.reduceEqDiff, Nat.reduceAdd, Nat.reduceSub, Nat.reduceLT, Nat.reduceLeDiff, ↓reduceIte, if_true, if_false, List.getElem?_cons_zero, List.getElem?_cons_succ, List.set_cons_zero, List.set_cons_succ, List.length_cons, List.length_nil, mz_s1, mz_s2, mz_cl, true_and, and_true, false_and, and_false, List.append_nil, mk_b0, mk_b1, mk_b2, mk_bn, Value.int.injEq, Option.toList_some, Option.toList_none, List.cons_append, List.nil_append, Classical.not_not, Option.some.injEq, reduceCtorEq, ne_eq, not_true_eq_false, not_false_eq_true, false_implies, true_implies, ev_56, ev_0, ev_61, ev_64, mz_rl d_Office_haveCommonColumn_19, mz_rl d_Office_haveCommonColumn_22, mz_rl d_Office_haveCommonColumn_23, mz_rl d_Office_haveCommonColumn_26, mz_rl d_Office_haveCommonColumn_27, j_Office_haveCommonColumn_19, j_Office_haveCommonColumn_23, nF_0, mk_lt, mk_le, mk_ti, mk_nti (show y % 16 < 2 ^ 31 by omega), mk_nti (show x % 16 + (x / 16 + 1) < 2 ^ 31 by omega)]
  omega
theorem dg_83 {c : Nat} (h : 83 ≤ c) : nI c - nI 83 + nI 2 = dg c := by
  rw [pk_sub h, nI_add]
  unfold dg dgN
  rw [if_neg (by omega), if_pos h]
  congr 1; omega
theorem dg_74 {c : Nat} (h : 74 ≤ c) (h2 : c < 83) : nI c - nI 74 + nI 1 = dg c := by
  rw [pk_sub h, nI_add]
  unfold dg dgN
  rw [if_neg (by omega), if_neg (by omega), if_pos h]
  congr 1; omega
theorem dg_65 {c : Nat} (h : 65 ≤ c) (h2 : c < 74) : nI c - nI 65 + nI 1 = dg c := by
  rw [pk_sub h, nI_add]
  unfold dg dgN
  rw [if_neg (by omega), if_neg (by omega), if_neg (by omega), if_pos h]
  congr 1; omega
theorem dg_48 {c : Nat} (h : 48 ≤ c) (h2 : c < 65) : nI c - nI 48 = dg c := by
  rw [pk_sub h]
  unfold dg dgN
  rw [if_neg (by omega), if_neg (by omega), if_neg (by omega), if_neg (by omega)]
theorem dg_32 : -1 = dg 32 := rfl
theorem c_Office_digitOf (G : mz_G) (X : mz_E) (n : Nat) (f : mz_H) {c : Nat} (hc : sg c) : mz_Ct G X y_Office_digitOf b_Office_digitOf 1 (some .int) (r_Office_digitOf 0 0) [.int (nI c)] n f (fun v n' f' => v = some (.int (dg c)) ∧ n' = n ∧ f' = f) := by
  have hl := sg_lt hc
  refine mk_Ct 0 false [some (.int (nI c))] (by decide) rfl (by decide) (Nat.le_of_ble_eq_true rfl) rfl ?_
  refine mz_go [] 40 ?_
  simp only [mz_r0, mk_lit, mk_fin, mk_cat, mk_fit, mk_nar, mk_cls, mk_ty, mk_isr, List.mem_cons, List.not_mem_nil, or_false, or_true, false_or, true_or, Nat.reduceEqDiff, Nat.reduceAdd, Nat.reduceSub, Nat.reduceLT, Nat.reduceLeDiff, ↓reduceIte, if_true, if_false, List.getElem?_cons_zero, List.getElem?_cons_succ, List.set_cons_zero, List.set_cons_succ, List.length_cons, List.length_nil, mz_s1, mz_s2, mz_cl, true_and, and_true, false_and, and_false, List.append_nil, mk_b0, mk_b1, mk_b2, mk_bn, Value.int.injEq, Option.toList_some, Option.toList_none, List.cons_append, List.nil_append, Classical.not_not, Option.some.injEq, reduceCtorEq, ne_eq, not_true_eq_false, not_false_eq_true, false_implies, true_implies, ev_37, ev_1, ev_54, ev_6, ev_0, ev_5, ev_64, ev_52, ev_61, mz_rl d_Office_digitOf_0, mz_rl d_Office_digitOf_1, mz_rl d_Office_digitOf_3, mz_rl d_Office_digitOf_6, mz_rl d_Office_digitOf_7, mz_rl d_Office_digitOf_9, mz_rl d_Office_digitOf_10, mz_rl d_Office_digitOf_11, mz_rl d_Office_digitOf_12, mz_rl d_Office_digitOf_13, mz_rl d_Office_digitOf_14, mz_rl d_Office_digitOf_16, mz_rl d_Office_digitOf_19, mz_rl d_Office_digitOf_20, mz_rl d_Office_digitOf_22, mz_rl d_Office_digitOf_23, mz_rl d_Office_digitOf_24, mz_rl d_Office_digitOf_25, mz_rl d_Office_digitOf_26, mz_rl d_Office_digitOf_27, mz_rl d_Office_digitOf_29, mz_rl d_Office_digitOf_32, mz_rl d_Office_digitOf_33, mz_rl d_Office_digitOf_35, mz_rl d_Office_digitOf_36, mz_rl d_Office_digitOf_37, mz_rl d_Office_digitOf_38, mz_rl d_Office_digitOf_39, mz_rl d_Office_digitOf_40, mz_rl d_Office_digitOf_42, mz_rl d_Office_digitOf_45, mz_rl d_Office_digitOf_46, mz_rl d_Office_digitOf_49, mz_rl d_Office_digitOf_50, mz_rl d_Office_digitOf_52, mz_rl d_Office_digitOf_53, j_Office_digitOf_3, j_Office_digitOf_16, j_Office_digitOf_29, j_Office_digitOf_42, j_Office_digitOf_46, nF_0, mk_lt, mk_le, mk_eq (nI c) (nI 32), mk_ti, mk_nti (show c < 2 ^ 31 by omega)]
  unfold sg at hc
  refine ⟨fun h => ⟨fun h2 => ⟨fun h3 => ⟨fun h4 => ?_, fun h4 => ?_⟩, fun h3 => ?_⟩, fun h2 => ?_⟩, fun h => ?_⟩
  · exact dg_48 (by omega) (by omega)
  · have : c = 32 := by omega
    subst this; exact dg_32
  · exact dg_65 (by omega) (by omega)
  · exact dg_74 (by omega) (by omega)
  · exact dg_83 (by omega)
theorem c_Office_zoneOf (G : mz_G) (X : mz_E) (n : Nat) (f : mz_H) {c : Nat} (hc : sg c) : mz_Ct G X y_Office_zoneOf b_Office_zoneOf 1 (some .int) (r_Office_zoneOf 0 0) [.int (nI c)] n f (fun v n' f' => v = some (.int (nI (zn c))) ∧ n' = n ∧ f' = f) := by
  have hl := sg_lt hc
  refine mk_Ct 0 false [some (.int (nI c))] (by decide) rfl (by decide) (Nat.le_of_ble_eq_true rfl) rfl ?_
  refine mz_go [] 40 ?_
  simp only [mz_r0, mk_lit, mk_fin, mk_cat, mk_fit, mk_nar, mk_cls, mk_ty, mk_isr, List.mem_cons, List.not_mem_nil, or_false, or_true, false_or, true_or, Nat.reduceEqDiff, Nat.reduceAdd, Nat.reduceSub, Nat.reduceLT, Nat.reduceLeDiff, ↓reduceIte, if_true, if_false, List.getElem?_cons_zero, List.getElem?_cons_succ, List.set_cons_zero, List.set_cons_succ, List.length_cons, List.length_nil, mz_s1, mz_s2, mz_cl, true_and, and_true, false_and, and_false, List.append_nil, mk_b0, mk_b1, mk_b2, mk_bn, Value.int.injEq, Option.toList_some, Option.toList_none, List.cons_append, List.nil_append, Classical.not_not, Option.some.injEq, reduceCtorEq, ne_eq, not_true_eq_false, not_false_eq_true, false_implies, true_implies, ev_37, ev_1, ev_54, ev_0, ev_64, ev_61, mz_rl d_Office_zoneOf_0, mz_rl d_Office_zoneOf_1, mz_rl d_Office_zoneOf_3, mz_rl d_Office_zoneOf_6, mz_rl d_Office_zoneOf_7, mz_rl d_Office_zoneOf_8, mz_rl d_Office_zoneOf_9, mz_rl d_Office_zoneOf_11, mz_rl d_Office_zoneOf_14, mz_rl d_Office_zoneOf_15, mz_rl d_Office_zoneOf_16, mz_rl d_Office_zoneOf_17, mz_rl d_Office_zoneOf_19, mz_rl d_Office_zoneOf_22, mz_rl d_Office_zoneOf_23, mz_rl d_Office_zoneOf_26, mz_rl d_Office_zoneOf_27, j_Office_zoneOf_3, j_Office_zoneOf_11, j_Office_zoneOf_19, j_Office_zoneOf_23, nF_0, mk_lt, mk_le, mk_ti, mk_nti (show c < 2 ^ 31 by omega)]
  unfold zn
  refine ⟨fun h => ⟨fun h2 => ⟨fun h3 => ?_, fun h3 => ?_⟩, fun h2 => ?_⟩, fun h => ?_⟩
  · rw [if_neg (by omega), if_neg (by omega), if_neg (by omega)]
  · rw [if_neg (by omega), if_neg (by omega), if_pos (by omega)]
  · rw [if_neg (by omega), if_pos (by omega)]
  · rw [if_pos (by omega)]
theorem dp_eq {c : Nat} (hc : sg c) : dg c + nI 1 = nI (dp c) := by
  unfold dg dp
  by_cases h : c = 32
  · rw [if_pos h, if_pos h]; decide
  · rw [if_neg h, if_neg h, nI_add]
theorem c_Office_digitPocketOf (G : mz_G) (X : mz_E) (n : Nat) (f : mz_H) {c : Nat} (hc : sg c) : mz_Ct G X y_Office_digitPocketOf b_Office_digitPocketOf 1 (some .int) (r_Office_digitPocketOf 0 0) [.int (nI c)] n f (fun v n' f' => v = some (.int (nI (dp c))) ∧ n' = n ∧ f' = f) := by
  refine mk_Ct 0 false [some (.int (nI c))] (by decide) rfl (by decide) (Nat.le_of_ble_eq_true rfl) rfl ?_
  refine mz_go [1] 4 ?_
  simp only [mz_r0, mk_lit, mk_fin, mk_cat, mk_fit, mk_nar, mk_cls, mk_ty, mk_isr, List.mem_cons, List.not_mem_nil, or_false, or_true, false_or, true_or, Nat.reduceEqDiff, Nat.reduceAdd, Nat.reduceSub, Nat.reduceLT, Nat.reduceLeDiff, ↓reduceIte, if_true, if_false, List.getElem?_cons_zero, List.getElem?_cons_succ, List.set_cons_zero, List.set_cons_succ, List.length_cons, List.length_nil, mz_s1, mz_s2, mz_cl, true_and, and_true, false_and, and_false, List.append_nil, mk_b0, mk_b1, mk_b2, mk_bn, Value.int.injEq, Option.toList_some, Option.toList_none, List.cons_append, List.nil_append, Classical.not_not, Option.some.injEq, reduceCtorEq, ne_eq, not_true_eq_false, not_false_eq_true, false_implies, true_implies, ev_37, mz_rl d_Office_digitPocketOf_0, nF_0]
  refine mz_callS (by simp only [d_Office_digitPocketOf_1, Nat.reduceAdd]) g_0_247 rfl (fun _ _ h => h) (c_Office_digitOf G X n f hc) (by decide) (Nat.le_of_ble_eq_true rfl) rfl ?_; intro v_ n_ f_ h_; obtain ⟨rfl, hn_, hf_⟩ := h_; replace hn_ := hn_.symm; replace hf_ := hf_.symm; subst hn_; subst hf_
  refine mz_go [] 4 ?_
  simp only [mz_r0, mk_lit, mk_fin, mk_cat, mk_fit, mk_nar, mk_cls, mk_ty, mk_isr, List.mem_cons, List.not_mem_nil, or_false, or_true, false_or, true_or, Nat.reduceEqDiff, Nat.reduceAdd, Nat.reduceSub, Nat.reduceLT, Nat.reduceLeDiff, ↓reduceIte, if_true, if_false, List.getElem?_cons_zero, List.getElem?_cons_succ, List.set_cons_zero, List.set_cons_succ, List.length_cons, List.length_nil, mz_s1, mz_s2, mz_cl, true_and, and_true, false_and, and_false, List.append_nil, mk_b0, mk_b1, mk_b2, mk_bn, Value.int.injEq, Option.toList_some, Option.toList_none, List.cons_append, List.nil_append, Classical.not_not, Option.some.injEq, reduceCtorEq, ne_eq, not_true_eq_false, not_false_eq_true, false_implies, true_implies, ev_0, ev_5, ev_64, mz_rl d_Office_digitPocketOf_4, mz_rl d_Office_digitPocketOf_5, mz_rl d_Office_digitPocketOf_6, nF_0, dp_eq hc]
theorem c_Office_rankOf (G : mz_G) (X : mz_E) (n : Nat) (f : mz_H) {c : Nat} (hc : sg c) : mz_Ct G X y_Office_rankOf b_Office_rankOf 1 (some .int) (r_Office_rankOf 0 0) [.int (nI c)] n f (fun v n' f' => v = some (.int (nI (rk c))) ∧ n' = n ∧ f' = f) := by
  refine mk_Ct 0 false [some (.int (nI c))] (by decide) rfl (by decide) (Nat.le_of_ble_eq_true rfl) rfl ?_
  refine mz_go [1] 4 ?_
  simp only [mz_r0, mk_lit, mk_fin, mk_cat, mk_fit, mk_nar, mk_cls, mk_ty, mk_isr, List.mem_cons, List.not_mem_nil, or_false, or_true, false_or, true_or, Nat.reduceEqDiff, Nat.reduceAdd, Nat.reduceSub, Nat.reduceLT, Nat.reduceLeDiff, ↓reduceIte, if_true, if_false, List.getElem?_cons_zero, List.getElem?_cons_succ, List.set_cons_zero, List.set_cons_succ, List.length_cons, List.length_nil, mz_s1, mz_s2, mz_cl, true_and, and_true, false_and, and_false, List.append_nil, mk_b0, mk_b1, mk_b2, mk_bn, Value.int.injEq, Option.toList_some, Option.toList_none, List.cons_append, List.nil_append, Classical.not_not, Option.some.injEq, reduceCtorEq, ne_eq, not_true_eq_false, not_false_eq_true, false_implies, true_implies, ev_37, mz_rl d_Office_rankOf_0, nF_0]
  refine mz_callS (by simp only [d_Office_rankOf_1, Nat.reduceAdd]) g_0_250 rfl (fun _ _ h => h) (c_Office_zoneOf G X n f hc) (by decide) (Nat.le_of_ble_eq_true rfl) rfl ?_; intro v_ n_ f_ h_; obtain ⟨rfl, hn_, hf_⟩ := h_; replace hn_ := hn_.symm; replace hf_ := hf_.symm; subst hn_; subst hf_
  refine mz_go [8] 6 ?_
  simp only [mz_r0, mk_lit, mk_fin, mk_cat, mk_fit, mk_nar, mk_cls, mk_ty, mk_isr, List.mem_cons, List.not_mem_nil, or_false, or_true, false_or, true_or, Nat.reduceEqDiff, Nat.reduceAdd, Nat.reduceSub, Nat.reduceLT, Nat.reduceLeDiff, ↓reduceIte, if_true, if_false, List.getElem?_cons_zero, List.getElem?_cons_succ, List.set_cons_zero, List.set_cons_succ, List.length_cons, List.length_nil, mz_s1, mz_s2, mz_cl, true_and, and_true, false_and, and_false, List.append_nil, mk_b0, mk_b1, mk_b2, mk_bn, Value.int.injEq, Option.toList_some, Option.toList_none, List.cons_append, List.nil_append, Classical.not_not, Option.some.injEq, reduceCtorEq, ne_eq, not_true_eq_false, not_false_eq_true, false_implies, true_implies, ev_1, ev_7, ev_37, mz_rl d_Office_rankOf_4, mz_rl d_Office_rankOf_6, mz_rl d_Office_rankOf_7, nF_0]
  refine mz_callS (by simp only [d_Office_rankOf_8, Nat.reduceAdd]) g_0_253 rfl (fun _ _ h => h) (c_Office_digitPocketOf G X _ _ hc) (by decide) (Nat.le_of_ble_eq_true rfl) rfl ?_; intro v_ n_ f_ h_; obtain ⟨rfl, hn_, hf_⟩ := h_; replace hn_ := hn_.symm; replace hf_ := hf_.symm; subst hn_; subst hf_
  refine mz_go [] 4 ?_
  simp only [mz_r0, mk_lit, mk_fin, mk_cat, mk_fit, mk_nar, mk_cls, mk_ty, mk_isr, List.mem_cons, List.not_mem_nil, or_false, or_true, false_or, true_or, Nat.reduceEqDiff, Nat.reduceAdd, Nat.reduceSub, Nat.reduceLT, Nat.reduceLeDiff, ↓reduceIte, if_true, if_false, List.getElem?_cons_zero, List.getElem?_cons_succ, List.set_cons_zero, List.set_cons_succ, List.length_cons, List.length_nil, mz_s1, mz_s2, mz_cl, true_and, and_true, false_and, and_false, List.append_nil, mk_b0, mk_b1, mk_b2, mk_bn, Value.int.injEq, Option.toList_some, Option.toList_none, List.cons_append, List.nil_append, Classical.not_not, Option.some.injEq, reduceCtorEq, ne_eq, not_true_eq_false, not_false_eq_true, false_implies, true_implies, ev_5, ev_64, mz_rl d_Office_rankOf_11, mz_rl d_Office_rankOf_12, nF_0, pk_mul, nI_add, rk]
def ic (x y : Int32) : Int32 := if x < y then -1 else if x = y then nI 0 else nI 1
theorem c_Integer_compare (G : mz_G) (X : mz_E) (n : Nat) (f : mz_H) (x y : Int32) : mz_Ct G X y_Integer_compare b_Integer_compare 2 (some .int) (r_Integer_compare 0 0) [.int x, .int y] n f (fun v n' f' => v = some (.int (ic x y)) ∧ n' = n ∧ f' = f) := by
  refine mk_Ct 15 false [some (.int x), some (.int y)] (by decide) rfl (by decide) (Nat.le_of_ble_eq_true rfl) rfl ?_
  refine mz_go [] 12 ?_
  simp only [mz_r0, mk_lit, mk_fin, mk_cat, mk_fit, mk_nar, mk_cls, mk_ty, mk_isr, List.mem_cons, List.not_mem_nil, or_false, or_true, false_or, true_or, Nat.reduceEqDiff, Nat.reduceAdd, Nat.reduceSub, Nat.reduceLT, Nat.reduceLeDiff, ↓reduceIte, if_true, if_false, List.getElem?_cons_zero, List.getElem?_cons_succ, List.set_cons_zero, List.set_cons_succ, List.length_cons, List.length_nil, mz_s1, mz_s2, mz_cl, true_and, and_true, false_and, and_false, List.append_nil, mk_b0, mk_b1, mk_b2, mk_bn, Value.int.injEq, Option.toList_some, Option.toList_none, List.cons_append, List.nil_append, Classical.not_not, Option.some.injEq, reduceCtorEq, ne_eq, not_true_eq_false, not_false_eq_true, false_implies, true_implies, ev_37, ev_56, ev_0, ev_61, ev_52, ev_64, mz_rl d_Integer_compare_0, mz_rl d_Integer_compare_1, mz_rl d_Integer_compare_2, mz_rl d_Integer_compare_5, mz_rl d_Integer_compare_6, mz_rl d_Integer_compare_9, mz_rl d_Integer_compare_10, mz_rl d_Integer_compare_11, mz_rl d_Integer_compare_14, mz_rl d_Integer_compare_15, mz_rl d_Integer_compare_18, mz_rl d_Integer_compare_19, j_Integer_compare_2, j_Integer_compare_6, j_Integer_compare_11, j_Integer_compare_15]
  unfold ic
  refine ⟨fun h => ⟨fun h2 => ?_, fun h2 => ?_⟩, fun h => ?_⟩
  · rw [if_neg (by rw [mk_lt]; rw [mk_le] at h; omega), if_neg h2]
  · rw [if_neg (by rw [mk_lt]; rw [mk_le] at h; omega), if_pos h2]
  · rw [if_pos (by rw [mk_lt]; rw [mk_le] at h; omega)]
theorem c_Card_canTake (G : mz_G) (X : mz_E) (n : Nat) (f : mz_H) {a b k c : Nat} {s : Nat → Nat} (h1 : f a = .inr (2, [.ref b])) (h2 : f b = aI 16 (fun j => nI (s j))) (hk : k < 16) (hs : sg (s k)) (hc : c < 2 ^ 31) : mz_Ct G X y_Card_canTake b_Card_canTake 3 (some .boolean) (r_Card_canTake 0 0) [.ref a, .int (nI k), .int (nI c)] n f (fun v n' f' => v = some (.int (mk_b (s k = 32 ∨ s k = c))) ∧ n' = n ∧ f' = f) := by
  have hl := sg_lt hs
  refine mk_Ct 2 false [some (.ref a), some (.int (nI k)), some (.int (nI c))] (by decide) rfl (by decide) (Nat.le_of_ble_eq_true rfl) rfl ?_
  refine mz_go [] 20 ?_
  simp only [mz_r0, mk_lit, mk_fin, mk_cat, mk_fit, mk_nar, mk_cls, mk_ty, mk_isr, List.mem_cons, List.not_mem_nil, or_false, or_true, false_or, true_or, Nat.reduceEqDiff, Nat.reduceAdd, Nat.reduceSub, Nat.reduceLT, Nat.reduceLeDiff, ↓reduceIte, if_true, if_false, List.getElem?_cons_zero, List.getElem?_cons_succ, List.set_cons_zero, List.set_cons_succ, List.length_cons, List.length_nil, mz_s1, mz_s2, mz_cl, true_and, and_true, false_and, and_false, List.append_nil, mk_b0, mk_b1, mk_b2, mk_bn, Value.int.injEq, Option.toList_some, Option.toList_none, List.cons_append, List.nil_append, Classical.not_not, Option.some.injEq, reduceCtorEq, ne_eq, not_true_eq_false, not_false_eq_true, false_implies, true_implies, ev_41, ev_79, ft_2_0, fn_2_0, ev_37, ev_68, ev_1, ev_50, ev_52, ev_0, ev_61, ev_64, mz_rl d_Card_canTake_0, mz_rl d_Card_canTake_1, mz_rl d_Card_canTake_4, mz_rl d_Card_canTake_5, mz_rl d_Card_canTake_6, mz_rl d_Card_canTake_8, mz_rl d_Card_canTake_11, mz_rl d_Card_canTake_12, mz_rl d_Card_canTake_15, mz_rl d_Card_canTake_16, mz_rl d_Card_canTake_17, mz_rl d_Card_canTake_18, mz_rl d_Card_canTake_21, mz_rl d_Card_canTake_22, mz_rl d_Card_canTake_25, mz_rl d_Card_canTake_26, j_Card_canTake_8, j_Card_canTake_18, j_Card_canTake_22, nF_2, h1, h2, vp_in_nI hk (show 16 < 2 ^ 31 by decide), nI_clamp (show k < 2 ^ 31 by omega), nI_eq (show s k < 2 ^ 31 by omega) (show 32 < 2 ^ 31 by decide), nI_eq (show s k < 2 ^ 31 by omega) hc]
  omega
def cmpK (s1 s2 : Nat → Nat) : Nat → Nat → Int32
  | _, 0 => nI 0
  | k, m + 1 => if s1 k = s2 k then cmpK s1 s2 (k + 1) m else ic (nI (rk (s1 k))) (nI (rk (s2 k)))
theorem l_Card_compareOn (G : mz_G) (X : mz_E) (n : Nat) (f : mz_H) {a b a' b' fr to : Nat} {s1 s2 : Nat → Nat} (h1 : f a = .inr (2, [.ref a'])) (h2 : f b = .inr (2, [.ref b'])) (h3 : f a' = aI 16 (fun j => nI (s1 j))) (h4 : f b' = aI 16 (fun j => nI (s2 j))) (hs1 : ∀ j, j < 16 → sg (s1 j)) (hs2 : ∀ j, j < 16 → sg (s2 j)) (ht : to < 16) (R : Int32) :
    ∀ m k, k + m = to + 1 → cmpK s1 s2 k m = R → mz_X G X 2 false b_Card_compareOn 5 (some .int) (r_Card_compareOn 0 0) (fun v n' f' => v = some (.int R) ∧ n' = n ∧ f' = f) (fun _ _ _ => False) 3 [some (.ref a), some (.ref b), some (.int (nI fr)), some (.int (nI to)), some (.int (nI k))] [] 0 0 n f := by
  intro m
  induction m with
  | zero =>
    intro k hk hR
    refine mz_go [3] 6 ?_
    simp only [mz_r0, mk_lit, mk_fin, mk_cat, mk_fit, mk_nar, mk_cls, mk_ty, mk_isr, List.mem_cons, List.not_mem_nil, or_false, or_true, false_or, true_or, Nat.reduceEqDiff, Nat.reduceAdd, Nat.reduceSub, Nat.reduceLT, Nat.reduceLeDiff, ↓reduceIte, if_true, if_false, List.getElem?_cons_zero, List.getElem?_cons_succ, List.set_cons_zero, List.set_cons_succ, List.length_cons, List.length_nil, mz_s1, mz_s2, mz_cl, true_and, and_true, false_and, and_false, List.append_nil, mk_b0, mk_b1, mk_b2, mk_bn, Value.int.injEq, Option.toList_some, Option.toList_none, List.cons_append, List.nil_append, Classical.not_not, Option.some.injEq, reduceCtorEq, ne_eq, not_true_eq_false, not_false_eq_true, false_implies, true_implies, ev_36, ev_37, ev_58, ev_41, ev_79, ft_2_0, fn_2_0, ev_68, ev_50, ev_48, ev_61, ev_0, ev_64, mz_rl d_Card_compareOn_3, mz_rl d_Card_compareOn_5, mz_rl d_Card_compareOn_6, mz_rl d_Card_compareOn_9, mz_rl d_Card_compareOn_10, mz_rl d_Card_compareOn_13, mz_rl d_Card_compareOn_15, mz_rl d_Card_compareOn_16, mz_rl d_Card_compareOn_17, mz_rl d_Card_compareOn_20, mz_rl d_Card_compareOn_22, mz_rl d_Card_compareOn_23, mz_rl d_Card_compareOn_26, mz_rl d_Card_compareOn_27, mz_rl d_Card_compareOn_30, mz_rl d_Card_compareOn_32, mz_rl d_Card_compareOn_33, mz_rl d_Card_compareOn_50, mz_rl d_Card_compareOn_53, mz_rl d_Card_compareOn_56, mz_rl d_Card_compareOn_57, j_Card_compareOn_6, j_Card_compareOn_23, j_Card_compareOn_53, nF_2, nI_ltI (show to < 2 ^ 31 by omega) (show k < 2 ^ 31 by omega)]
    refine ⟨fun _ => hR, fun h => absurd (show to < k by omega) h⟩
  | succ m ih =>
    intro k hk hR
    refine mz_go [3, 33] 20 ?_
    have hk16 : k < 16 := by omega
    have e1 := sg_lt (hs1 k hk16)
    have e2 := sg_lt (hs2 k hk16)
    have hin : vp_in (nI k) 16 := vp_in_nI hk16 (by decide)
    simp only [mz_r0, mk_lit, mk_fin, mk_cat, mk_fit, mk_nar, mk_cls, mk_ty, mk_isr, List.mem_cons, List.not_mem_nil, or_false, or_true, false_or, true_or, Nat.reduceEqDiff, Nat.reduceAdd, Nat.reduceSub, Nat.reduceLT, Nat.reduceLeDiff, ↓reduceIte, if_true, if_false, List.getElem?_cons_zero, List.getElem?_cons_succ, List.set_cons_zero, List.set_cons_succ, List.length_cons, List.length_nil, mz_s1, mz_s2, mz_cl, true_and, and_true, false_and, and_false, List.append_nil, mk_b0, mk_b1, mk_b2, mk_bn, Value.int.injEq, Option.toList_some, Option.toList_none, List.cons_append, List.nil_append, Classical.not_not, Option.some.injEq, reduceCtorEq, ne_eq, not_true_eq_false, not_false_eq_true, false_implies, true_implies, ev_36, ev_37, ev_58, ev_41, ev_79, ft_2_0, fn_2_0, ev_68, ev_50, ev_48, ev_61, ev_0, ev_64, mz_rl d_Card_compareOn_3, mz_rl d_Card_compareOn_5, mz_rl d_Card_compareOn_6, mz_rl d_Card_compareOn_9, mz_rl d_Card_compareOn_10, mz_rl d_Card_compareOn_13, mz_rl d_Card_compareOn_15, mz_rl d_Card_compareOn_16, mz_rl d_Card_compareOn_17, mz_rl d_Card_compareOn_20, mz_rl d_Card_compareOn_22, mz_rl d_Card_compareOn_23, mz_rl d_Card_compareOn_26, mz_rl d_Card_compareOn_27, mz_rl d_Card_compareOn_30, mz_rl d_Card_compareOn_32, mz_rl d_Card_compareOn_50, mz_rl d_Card_compareOn_53, mz_rl d_Card_compareOn_56, mz_rl d_Card_compareOn_57, j_Card_compareOn_6, j_Card_compareOn_23, j_Card_compareOn_53, nF_2, nI_ltI (show to < 2 ^ 31 by omega) (show k < 2 ^ 31 by omega), show ¬ to < k by omega, h1, h2, h3, h4, hin, nI_clamp (show k < 2 ^ 31 by omega), nI_eq (show s1 k < 2 ^ 31 by omega) (show s2 k < 2 ^ 31 by omega), nI_add]
    unfold cmpK at hR
    refine ⟨fun h => ?_, fun h => ?_⟩
    · rw [if_pos h] at hR
      exact ih (k + 1) (by omega) hR
    · rw [if_neg h] at hR
      refine mz_callS (by simp only [d_Card_compareOn_33, Nat.reduceAdd]) g_2_15 rfl (fun _ _ h => h) (c_Office_rankOf G X n f (hs1 k hk16)) (by decide) (Nat.le_of_ble_eq_true rfl) rfl ?_; intro v_ n_ f_ h_; obtain ⟨rfl, hn_, hf_⟩ := h_; replace hn_ := hn_.symm; replace hf_ := hf_.symm; subst hn_; subst hf_
      refine mz_go [43] 6 ?_
      simp only [mz_r0, mk_lit, mk_fin, mk_cat, mk_fit, mk_nar, mk_cls, mk_ty, mk_isr, List.mem_cons, List.not_mem_nil, or_false, or_true, false_or, true_or, Nat.reduceEqDiff, Nat.reduceAdd, Nat.reduceSub, Nat.reduceLT, Nat.reduceLeDiff, ↓reduceIte, if_true, if_false, List.getElem?_cons_zero, List.getElem?_cons_succ, List.set_cons_zero, List.set_cons_succ, List.length_cons, List.length_nil, mz_s1, mz_s2, mz_cl, true_and, and_true, false_and, and_false, List.append_nil, mk_b0, mk_b1, mk_b2, mk_bn, Value.int.injEq, Option.toList_some, Option.toList_none, List.cons_append, List.nil_append, Classical.not_not, Option.some.injEq, reduceCtorEq, ne_eq, not_true_eq_false, not_false_eq_true, false_implies, true_implies, ev_41, ev_79, ft_2_0, fn_2_0, ev_36, ev_68, mz_rl d_Card_compareOn_36, mz_rl d_Card_compareOn_37, mz_rl d_Card_compareOn_40, mz_rl d_Card_compareOn_42, nF_2, h1, h2, h3, h4, hin, nI_clamp (show k < 2 ^ 31 by omega)]
      refine mz_callS (by simp only [d_Card_compareOn_43, Nat.reduceAdd]) g_2_15 rfl (fun _ _ h => h) (c_Office_rankOf G X _ _ (hs2 k hk16)) (by decide) (Nat.le_of_ble_eq_true rfl) rfl ?_; intro v_ n_ f_ h_; obtain ⟨rfl, hn_, hf_⟩ := h_; replace hn_ := hn_.symm; replace hf_ := hf_.symm; subst hn_; subst hf_
      refine mz_callS (by simp only [d_Card_compareOn_46, Nat.reduceAdd]) g_2_19 rfl (fun _ _ h => h) (c_Integer_compare G X _ _ (nI (rk (s1 k))) (nI (rk (s2 k)))) (by decide) (Nat.le_of_ble_eq_true rfl) rfl ?_; intro v_ n_ f_ h_; obtain ⟨rfl, hn_, hf_⟩ := h_; replace hn_ := hn_.symm; replace hf_ := hf_.symm; subst hn_; subst hf_
      refine mz_go [] 6 ?_
      simp only [mz_r0, mk_lit, mk_fin, mk_cat, mk_fit, mk_nar, mk_cls, mk_ty, mk_isr, List.mem_cons, List.not_mem_nil, or_false, or_true, false_or, true_or, Nat.reduceEqDiff, Nat.reduceAdd, Nat.reduceSub, Nat.reduceLT, Nat.reduceLeDiff, ↓reduceIte, if_true, if_false, List.getElem?_cons_zero, List.getElem?_cons_succ, List.set_cons_zero, List.set_cons_succ, List.length_cons, List.length_nil, mz_s1, mz_s2, mz_cl, true_and, and_true, false_and, and_false, List.append_nil, mk_b0, mk_b1, mk_b2, mk_bn, Value.int.injEq, Option.toList_some, Option.toList_none, List.cons_append, List.nil_append, Classical.not_not, Option.some.injEq, reduceCtorEq, ne_eq, not_true_eq_false, not_false_eq_true, false_implies, true_implies, ev_64, mz_rl d_Card_compareOn_49, nF_2]
      exact hR
theorem c_Card_compareOn (G : mz_G) (X : mz_E) (n : Nat) (f : mz_H) {a b a' b' fr to : Nat} {s1 s2 : Nat → Nat} (h1 : f a = .inr (2, [.ref a'])) (h2 : f b = .inr (2, [.ref b'])) (h3 : f a' = aI 16 (fun j => nI (s1 j))) (h4 : f b' = aI 16 (fun j => nI (s2 j))) (hs1 : ∀ j, j < 16 → sg (s1 j)) (hs2 : ∀ j, j < 16 → sg (s2 j)) (hf : fr ≤ to) (ht : to < 16) :
    mz_Ct G X y_Card_compareOn b_Card_compareOn 5 (some .int) (r_Card_compareOn 0 0) [.ref a, .ref b, .int (nI fr), .int (nI to)] n f (fun v n' f' => v = some (.int (cmpK s1 s2 fr (to + 1 - fr))) ∧ n' = n ∧ f' = f) := by
  refine mk_Ct 2 false [some (.ref a), some (.ref b), some (.int (nI fr)), some (.int (nI to)), none] (by decide) rfl (by decide) (Nat.le_of_ble_eq_true rfl) rfl ?_
  refine mz_go [3] 6 ?_
  simp only [mz_r0, mk_lit, mk_fin, mk_cat, mk_fit, mk_nar, mk_cls, mk_ty, mk_isr, List.mem_cons, List.not_mem_nil, or_false, or_true, false_or, true_or, Nat.reduceEqDiff, Nat.reduceAdd, Nat.reduceSub, Nat.reduceLT, Nat.reduceLeDiff, ↓reduceIte, if_true, if_false, List.getElem?_cons_zero, List.getElem?_cons_succ, List.set_cons_zero, List.set_cons_succ, List.length_cons, List.length_nil, mz_s1, mz_s2, mz_cl, true_and, and_true, false_and, and_false, List.append_nil, mk_b0, mk_b1, mk_b2, mk_bn, Value.int.injEq, Option.toList_some, Option.toList_none, List.cons_append, List.nil_append, Classical.not_not, Option.some.injEq, reduceCtorEq, ne_eq, not_true_eq_false, not_false_eq_true, false_implies, true_implies, ev_37, ev_42, mz_rl d_Card_compareOn_0, mz_rl d_Card_compareOn_1, nF_2]
  exact l_Card_compareOn G X n f h1 h2 h3 h4 hs1 hs2 ht _ _ _ (by omega) rfl
end
section
theorem mz_Mono {l : Launch} {y : MethodName} {ws : List Cond} {rm : Room} {Pc : Array Value → State → Prop} {G : mz_G} {A : Nat → Prop} {ad : Nat → Nat} {n0 mc ms : Nat} {free : Addr → Prop} {post post' : Option Value → Nat → mz_H → Prop} (h : Met l y ws rm Pc (mz_q G A ad n0 post) mc ms free) (hp : ∀ v n' f', post v n' f' → post' v n' f') : Met l y ws rm Pc (mz_q G A ad n0 post') mc ms free := by
  intro p e h1 h2 h3 s m args below h4 h5 h6 h7
  obtain ⟨k, o, a1, a2, a3, ⟨v, ad', n', f', q1, q2, q3⟩, a5⟩ := h p e h1 h2 h3 s m args below h4 h5 h6 h7
  exact ⟨k, o, a1, a2, a3, ⟨v, ad', n', f', q1, hp _ _ _ q2, q3⟩, a5⟩
theorem mz_uu (f : mz_H) (k : Nat) (c d : mz_C) : mz_u (mz_u f k c) k d = mz_u f k d := by
  funext j; by_cases h : j = k <;> simp [mz_u, h]
theorem mz_ui {f : mz_H} {k : Nat} {c : mz_C} (h : f k = c) : mz_u f k c = f := by
  funext j; by_cases e : j = k
  · subst e; rw [mz_u_s]; exact h.symm
  · rw [mz_u_n e]
theorem mz_uc (f : mz_H) {k j : Nat} (h : k ≠ j) (c d : mz_C) : mz_u (mz_u f k c) j d = mz_u (mz_u f j d) k c := by
  funext i; by_cases e : i = j
  · by_cases e2 : i = k
    · exact absurd (e2.symm.trans e) h
    · simp [mz_u, e, h.symm]
  · by_cases e2 : i = k
    · subst e2; simp [mz_u, h]
    · simp [mz_u, e, e2]
/-- the first k places out of g, the others out of h -/
def cpy {α : Type} (g h : Nat → α) (k : Nat) : Nat → α := fun j => if j < k then g j else h j
theorem cpy_0 {α : Type} (g h : Nat → α) : cpy g h 0 = h := by funext j; simp [cpy]
theorem cpy_up {α : Type} (g h : Nat → α) (k : Nat) : va_up (cpy g h k) k (g k) = cpy g h (k + 1) := by
  funext j
  unfold va_up cpy
  by_cases e : j = k
  · subst e; simp
  · rw [if_neg e]; by_cases h2 : j < k
    · rw [if_pos h2, if_pos (by omega)]
    · rw [if_neg h2, if_neg (by omega)]
theorem cpy_upd (g h : Nat → Int32) (k : Nat) : upd (cpy g h k) k (g k) = cpy g h (k + 1) := cpy_up g h k
theorem cpy_lt {α : Type} {g h : Nat → α} {k j : Nat} (hj : j < k) : cpy g h k j = g j := if_pos hj
theorem cpy_ge {α : Type} {g h : Nat → α} {k j : Nat} (hj : k ≤ j) : cpy g h k j = h j := if_neg (by omega)
theorem l_Arrays_fill (G : mz_G) (X : mz_E) (n : Nat) (f : mz_H) {a N : Nat} {g : Nat → Int32} {x : Int32} (hN : N < 2 ^ 31) : ∀ m k, k + m = N → mz_X G X 14 false b_Arrays_fill 4 none (r_Arrays_fill 0 0) (fun v n' f' => v = none ∧ n' = n ∧ f' = mz_u f a (aI N (cpy (fun _ => x) g N))) (fun _ _ _ => False) 5 [some (.ref a), some (.int x), some (.int (nI k)), some (.int (nI N))] [] 0 0 n (mz_u f a (aI N (cpy (fun _ => x) g k))) := by
  intro m
  induction m with
  | zero =>
    intro k hk
    refine mz_go [5] 6 ?_
    simp only [mz_r0, mk_lit, mk_fin, mk_cat, mk_fit, mk_nar, mk_cls, mk_ty, mk_isr, List.mem_cons, List.not_mem_nil, or_false, or_true, false_or, true_or, Nat.reduceEqDiff, Nat.reduceAdd, Nat.reduceSub, Nat.reduceLT, Nat.reduceLeDiff, ↓reduceIte, if_true, if_false, List.getElem?_cons_zero, List.getElem?_cons_succ, List.set_cons_zero, List.set_cons_succ, List.length_cons, List.length_nil, mz_s1, mz_s2, mz_cl, true_and, and_true, false_and, and_false, List.append_nil, mk_b0, mk_b1, mk_b2, mk_bn, Value.int.injEq, Option.toList_some, Option.toList_none, List.cons_append, List.nil_append, Classical.not_not, Option.some.injEq, reduceCtorEq, ne_eq, not_true_eq_false, not_false_eq_true, false_implies, true_implies, ev_37, ev_56, ev_41, ev_72, ev_48, ev_61, ev_67, mz_rl d_Arrays_fill_5, mz_rl d_Arrays_fill_6, mz_rl d_Arrays_fill_7, mz_rl d_Arrays_fill_10, mz_rl d_Arrays_fill_11, mz_rl d_Arrays_fill_12, mz_rl d_Arrays_fill_13, mz_rl d_Arrays_fill_14, mz_rl d_Arrays_fill_17, mz_rl d_Arrays_fill_20, j_Arrays_fill_7, j_Arrays_fill_17, nI_leI (show N < 2 ^ 31 by omega) (show k < 2 ^ 31 by omega)]
    refine ⟨fun _ => ?_, fun h => absurd (show N ≤ k by omega) h⟩
    rw [show k = N by omega]
  | succ m ih =>
    intro k hk
    refine mz_go [5] 12 ?_
    simp only [mz_r0, mk_lit, mk_fin, mk_cat, mk_fit, mk_nar, mk_cls, mk_ty, mk_isr, List.mem_cons, List.not_mem_nil, or_false, or_true, false_or, true_or, Nat.reduceEqDiff, Nat.reduceAdd, Nat.reduceSub, Nat.reduceLT, Nat.reduceLeDiff, ↓reduceIte, if_true, if_false, List.getElem?_cons_zero, List.getElem?_cons_succ, List.set_cons_zero, List.set_cons_succ, List.length_cons, List.length_nil, mz_s1, mz_s2, mz_cl, true_and, and_true, false_and, and_false, List.append_nil, mk_b0, mk_b1, mk_b2, mk_bn, Value.int.injEq, Option.toList_some, Option.toList_none, List.cons_append, List.nil_append, Classical.not_not, Option.some.injEq, reduceCtorEq, ne_eq, not_true_eq_false, not_false_eq_true, false_implies, true_implies, ev_37, ev_56, ev_41, ev_72, ev_48, ev_61, ev_67, mz_rl d_Arrays_fill_5, mz_rl d_Arrays_fill_6, mz_rl d_Arrays_fill_7, mz_rl d_Arrays_fill_10, mz_rl d_Arrays_fill_11, mz_rl d_Arrays_fill_12, mz_rl d_Arrays_fill_13, mz_rl d_Arrays_fill_14, mz_rl d_Arrays_fill_17, mz_rl d_Arrays_fill_20, j_Arrays_fill_7, j_Arrays_fill_17, nI_leI (show N < 2 ^ 31 by omega) (show k < 2 ^ 31 by omega), show ¬ N ≤ k by omega, mz_u_s, vp_in_nI (show k < N by omega) hN, nI_clamp (show k < 2 ^ 31 by omega), nI_add, mz_uu]
    have := cpy_upd (fun _ => x) g k
    rw [this]
    exact ih (k + 1) (by omega)
theorem c_Arrays_fill (G : mz_G) (X : mz_E) (n : Nat) (f : mz_H) {a N : Nat} {g : Nat → Int32} (x : Int32) (h1 : f a = aI N g) (hN : N < 2 ^ 31) : mz_Ct G X y_Arrays_fill b_Arrays_fill 4 none (r_Arrays_fill 0 0) [.ref a, .int x] n f (fun v n' f' => v = none ∧ n' = n ∧ f' = mz_u f a (aI N (cpy (fun _ => x) g N))) := by
  refine mk_Ct 14 false [some (.ref a), some (.int x), none, none] (by decide) rfl (by decide) (Nat.le_of_ble_eq_true rfl) rfl ?_
  refine mz_go [5] 12 ?_
  simp only [mz_r0, mk_lit, mk_fin, mk_cat, mk_fit, mk_nar, mk_cls, mk_ty, mk_isr, List.mem_cons, List.not_mem_nil, or_false, or_true, false_or, true_or, Nat.reduceEqDiff, Nat.reduceAdd, Nat.reduceSub, Nat.reduceLT, Nat.reduceLeDiff, ↓reduceIte, if_true, if_false, List.getElem?_cons_zero, List.getElem?_cons_succ, List.set_cons_zero, List.set_cons_succ, List.length_cons, List.length_nil, mz_s1, mz_s2, mz_cl, true_and, and_true, false_and, and_false, List.append_nil, mk_b0, mk_b1, mk_b2, mk_bn, Value.int.injEq, Option.toList_some, Option.toList_none, List.cons_append, List.nil_append, Classical.not_not, Option.some.injEq, reduceCtorEq, ne_eq, not_true_eq_false, not_false_eq_true, false_implies, true_implies, ev_0, ev_43, ev_41, ev_78, mz_rl d_Arrays_fill_0, mz_rl d_Arrays_fill_1, mz_rl d_Arrays_fill_2, mz_rl d_Arrays_fill_3, mz_rl d_Arrays_fill_4, h1]
  have := l_Arrays_fill G X n f (a := a) (g := g) (x := x) hN N 0 (by omega)
  rw [cpy_0, mz_ui h1] at this
  exact this
theorem c_FaultLight_stopAt (G : mz_G) (X : mz_E) (n : Nat) (f : mz_H) {a : Nat} {x y u w : Int32} (h1 : f a = .inr (5, [.int u, .int w])) : mz_Ct G X y_FaultLight_stopAt b_FaultLight_stopAt 3 (some .int) (r_FaultLight_stopAt 0 0) [.ref a, .int x, .int y] n f (fun v n' f' => v = some (.int y) ∧ n' = n ∧ f' = mz_u f a (.inr (5, [.int x, .int y]))) := by
  refine mk_Ct 5 false [some (.ref a), some (.int x), some (.int y)] (by decide) rfl (by decide) (Nat.le_of_ble_eq_true rfl) rfl ?_
  refine mz_go [] 12 ?_
  simp only [mz_r0, mk_lit, mk_fin, mk_cat, mk_fit, mk_nar, mk_cls, mk_ty, mk_isr, List.mem_cons, List.not_mem_nil, or_false, or_true, false_or, true_or, Nat.reduceEqDiff, Nat.reduceAdd, Nat.reduceSub, Nat.reduceLT, Nat.reduceLeDiff, ↓reduceIte, if_true, if_false, List.getElem?_cons_zero, List.getElem?_cons_succ, List.set_cons_zero, List.set_cons_succ, List.length_cons, List.length_nil, mz_s1, mz_s2, mz_cl, true_and, and_true, false_and, and_false, List.append_nil, mk_b0, mk_b1, mk_b2, mk_bn, Value.int.injEq, Option.toList_some, Option.toList_none, List.cons_append, List.nil_append, Classical.not_not, Option.some.injEq, reduceCtorEq, ne_eq, not_true_eq_false, not_false_eq_true, false_implies, true_implies, ev_41, ev_37, ev_80, ft_5_0, fn_5_0, ft_5_1, fn_5_1, ev_64, mz_rl d_FaultLight_stopAt_0, mz_rl d_FaultLight_stopAt_1, mz_rl d_FaultLight_stopAt_2, mz_rl d_FaultLight_stopAt_5, mz_rl d_FaultLight_stopAt_6, mz_rl d_FaultLight_stopAt_7, mz_rl d_FaultLight_stopAt_10, mz_rl d_FaultLight_stopAt_11, nF_5, h1, mz_u_s, mz_uu]
theorem c_FaultLight_allDone (G : mz_G) (X : mz_E) (n : Nat) (f : mz_H) {a : Nat} {x u w : Int32} (h1 : f a = .inr (5, [.int u, .int w])) : mz_Ct G X y_FaultLight_allDone b_FaultLight_allDone 2 (some .int) (r_FaultLight_allDone 0 0) [.ref a, .int x] n f (fun v n' f' => v = some (.int x) ∧ n' = n ∧ f' = mz_u f a (.inr (5, [.int (nI 0), .int (-1)]))) := by
  refine mk_Ct 5 false [some (.ref a), some (.int x)] (by decide) rfl (by decide) (Nat.le_of_ble_eq_true rfl) rfl ?_
  refine mz_go [] 12 ?_
  simp only [mz_r0, mk_lit, mk_fin, mk_cat, mk_fit, mk_nar, mk_cls, mk_ty, mk_isr, List.mem_cons, List.not_mem_nil, or_false, or_true, false_or, true_or, Nat.reduceEqDiff, Nat.reduceAdd, Nat.reduceSub, Nat.reduceLT, Nat.reduceLeDiff, ↓reduceIte, if_true, if_false, List.getElem?_cons_zero, List.getElem?_cons_succ, List.set_cons_zero, List.set_cons_succ, List.length_cons, List.length_nil, mz_s1, mz_s2, mz_cl, true_and, and_true, false_and, and_false, List.append_nil, mk_b0, mk_b1, mk_b2, mk_bn, Value.int.injEq, Option.toList_some, Option.toList_none, List.cons_append, List.nil_append, Classical.not_not, Option.some.injEq, reduceCtorEq, ne_eq, not_true_eq_false, not_false_eq_true, false_implies, true_implies, ev_41, ev_0, ev_80, ft_5_0, fn_5_0, ft_5_1, fn_5_1, ev_37, ev_64, mz_rl d_FaultLight_allDone_0, mz_rl d_FaultLight_allDone_1, mz_rl d_FaultLight_allDone_2, mz_rl d_FaultLight_allDone_5, mz_rl d_FaultLight_allDone_6, mz_rl d_FaultLight_allDone_7, mz_rl d_FaultLight_allDone_10, mz_rl d_FaultLight_allDone_11, nF_5, h1, mz_u_s, mz_uu]
theorem c_Jacks_clear (G : mz_G) (X : mz_E) (n : Nat) (f : mz_H) {a b N : Nat} {g : Nat → Int32} {x y : Int32} (h1 : f a = .inr (6, [.int x, .ref b, .int y])) (h2 : f b = aI N g) (hN : N < 2 ^ 31) : mz_Ct G X y_Jacks_clear b_Jacks_clear 1 none (r_Jacks_clear 0 0) [.ref a] n f (fun v n' f' => v = none ∧ n' = n ∧ f' = mz_u (mz_u f b (aI N (cpy (fun _ => -1) g N))) a (.inr (6, [.int x, .ref b, .int (nI 0)]))) := by
  have hne : a ≠ b := by rintro rfl; rw [h1] at h2; cases h2
  refine mk_Ct 6 false [some (.ref a)] (by decide) rfl (by decide) (Nat.le_of_ble_eq_true rfl) rfl ?_
  refine mz_go [5] 12 ?_
  simp only [mz_r0, mk_lit, mk_fin, mk_cat, mk_fit, mk_nar, mk_cls, mk_ty, mk_isr, List.mem_cons, List.not_mem_nil, or_false, or_true, false_or, true_or, Nat.reduceEqDiff, Nat.reduceAdd, Nat.reduceSub, Nat.reduceLT, Nat.reduceLeDiff, ↓reduceIte, if_true, if_false, List.getElem?_cons_zero, List.getElem?_cons_succ, List.set_cons_zero, List.set_cons_succ, List.length_cons, List.length_nil, mz_s1, mz_s2, mz_cl, true_and, and_true, false_and, and_false, List.append_nil, mk_b0, mk_b1, mk_b2, mk_bn, Value.int.injEq, Option.toList_some, Option.toList_none, List.cons_append, List.nil_append, Classical.not_not, Option.some.injEq, reduceCtorEq, ne_eq, not_true_eq_false, not_false_eq_true, false_implies, true_implies, ev_41, ev_79, ft_6_1, fn_6_1, ev_0, mz_rl d_Jacks_clear_0, mz_rl d_Jacks_clear_1, mz_rl d_Jacks_clear_4, nF_6, h1]
  refine mz_callS (by simp only [d_Jacks_clear_5, Nat.reduceAdd]) g_6_19 rfl (fun _ _ h => h) (c_Arrays_fill G X n f (-1) h2 hN) (by decide) (Nat.le_of_ble_eq_true rfl) rfl ?_; intro v_ n_ f_ h_; obtain ⟨rfl, hn_, hf_⟩ := h_; replace hn_ := hn_.symm; replace hf_ := hf_.symm; subst hn_; subst hf_
  refine mz_go [] 12 ?_
  simp only [mz_r0, mk_lit, mk_fin, mk_cat, mk_fit, mk_nar, mk_cls, mk_ty, mk_isr, List.mem_cons, List.not_mem_nil, or_false, or_true, false_or, true_or, Nat.reduceEqDiff, Nat.reduceAdd, Nat.reduceSub, Nat.reduceLT, Nat.reduceLeDiff, ↓reduceIte, if_true, if_false, List.getElem?_cons_zero, List.getElem?_cons_succ, List.set_cons_zero, List.set_cons_succ, List.length_cons, List.length_nil, mz_s1, mz_s2, mz_cl, true_and, and_true, false_and, and_false, List.append_nil, mk_b0, mk_b1, mk_b2, mk_bn, Value.int.injEq, Option.toList_some, Option.toList_none, List.cons_append, List.nil_append, Classical.not_not, Option.some.injEq, reduceCtorEq, ne_eq, not_true_eq_false, not_false_eq_true, false_implies, true_implies, ev_41, ev_0, ev_80, ft_6_2, fn_6_2, ev_67, mz_rl d_Jacks_clear_8, mz_rl d_Jacks_clear_9, mz_rl d_Jacks_clear_10, mz_rl d_Jacks_clear_13, nF_6, h1, mz_u_n hne]
theorem c_Jacks_hasJack (G : mz_G) (X : mz_E) (n : Nat) (f : mz_H) {a b N q : Nat} {g : Nat → Int32} {x y : Int32} (h1 : f a = .inr (6, [.int (nI q), .ref b, .int y])) (h2 : f b = aI N g) (hN : q + N < 2 ^ 31) : mz_Ct G X y_Jacks_hasJack b_Jacks_hasJack 2 (some .boolean) (r_Jacks_hasJack 0 0) [.ref a, .int x] n f (fun v n' f' => v = some (.int (mk_b ((q : Int) ≤ x.toInt ∧ x.toInt < q + N))) ∧ n' = n ∧ f' = f) := by
  refine mk_Ct 6 false [some (.ref a), some (.int x)] (by decide) rfl (by decide) (Nat.le_of_ble_eq_true rfl) rfl ?_
  have e : Int32.ofNat N = nI N := rfl
  refine mz_go [] 20 ?_
  simp only [mz_r0, mk_lit, mk_fin, mk_cat, mk_fit, mk_nar, mk_cls, mk_ty, mk_isr, List.mem_cons, List.not_mem_nil, or_false, or_true, false_or, true_or, Nat.reduceEqDiff, Nat.reduceAdd, Nat.reduceSub, Nat.reduceLT, Nat.reduceLeDiff, ↓reduceIte, if_true, if_false, List.getElem?_cons_zero, List.getElem?_cons_succ, List.set_cons_zero, List.set_cons_succ, List.length_cons, List.length_nil, mz_s1, mz_s2, mz_cl, true_and, and_true, false_and, and_false, List.append_nil, mk_b0, mk_b1, mk_b2, mk_bn, Value.int.injEq, Option.toList_some, Option.toList_none, List.cons_append, List.nil_append, Classical.not_not, Option.some.injEq, reduceCtorEq, ne_eq, not_true_eq_false, not_false_eq_true, false_implies, true_implies, ev_37, ev_41, ev_79, ft_6_0, fn_6_0, ev_54, ft_6_1, fn_6_1, ev_78, ev_5, ev_56, ev_0, ev_61, ev_64, mz_rl d_Jacks_hasJack_0, mz_rl d_Jacks_hasJack_1, mz_rl d_Jacks_hasJack_2, mz_rl d_Jacks_hasJack_5, mz_rl d_Jacks_hasJack_8, mz_rl d_Jacks_hasJack_9, mz_rl d_Jacks_hasJack_10, mz_rl d_Jacks_hasJack_13, mz_rl d_Jacks_hasJack_14, mz_rl d_Jacks_hasJack_17, mz_rl d_Jacks_hasJack_18, mz_rl d_Jacks_hasJack_19, mz_rl d_Jacks_hasJack_22, mz_rl d_Jacks_hasJack_23, mz_rl d_Jacks_hasJack_26, mz_rl d_Jacks_hasJack_27, j_Jacks_hasJack_5, j_Jacks_hasJack_19, j_Jacks_hasJack_23, nF_6, h1, h2, e, nI_add, mk_lt, mk_le, mk_nti (show q < 2 ^ 31 by omega), mk_nti (show q + N < 2 ^ 31 by omega)]
  omega
theorem c_Jacks_signOrBlank (G : mz_G) (X : mz_E) (n : Nat) (f : mz_H) {a b N k : Nat} {g : Nat → Int32} {x y : Int32} (h1 : f a = .inr (6, [.int x, .ref b, .int y])) (h2 : f b = aI N g) (hk : k < N) (hN : N < 2 ^ 31) : mz_Ct G X y_Jacks_signOrBlank b_Jacks_signOrBlank 2 (some .int) (r_Jacks_signOrBlank 0 0) [.ref a, .int (nI k)] n f (fun v n' f' => v = some (.int (if g k = -1 then nI 32 else g k)) ∧ n' = n ∧ f' = f) := by
  refine mk_Ct 6 false [some (.ref a), some (.int (nI k))] (by decide) rfl (by decide) (Nat.le_of_ble_eq_true rfl) rfl ?_
  refine mz_go [] 20 ?_
  simp only [mz_r0, mk_lit, mk_fin, mk_cat, mk_fit, mk_nar, mk_cls, mk_ty, mk_isr, List.mem_cons, List.not_mem_nil, or_false, or_true, false_or, true_or, Nat.reduceEqDiff, Nat.reduceAdd, Nat.reduceSub, Nat.reduceLT, Nat.reduceLeDiff, ↓reduceIte, if_true, if_false, List.getElem?_cons_zero, List.getElem?_cons_succ, List.set_cons_zero, List.set_cons_succ, List.length_cons, List.length_nil, mz_s1, mz_s2, mz_cl, true_and, and_true, false_and, and_false, List.append_nil, mk_b0, mk_b1, mk_b2, mk_bn, Value.int.injEq, Option.toList_some, Option.toList_none, List.cons_append, List.nil_append, Classical.not_not, Option.some.injEq, reduceCtorEq, ne_eq, not_true_eq_false, not_false_eq_true, false_implies, true_implies, ev_41, ev_79, ft_6_1, fn_6_1, ev_37, ev_68, ev_0, ev_52, ev_1, ev_61, ev_64, mz_rl d_Jacks_signOrBlank_0, mz_rl d_Jacks_signOrBlank_1, mz_rl d_Jacks_signOrBlank_4, mz_rl d_Jacks_signOrBlank_5, mz_rl d_Jacks_signOrBlank_6, mz_rl d_Jacks_signOrBlank_7, mz_rl d_Jacks_signOrBlank_10, mz_rl d_Jacks_signOrBlank_12, mz_rl d_Jacks_signOrBlank_15, mz_rl d_Jacks_signOrBlank_16, mz_rl d_Jacks_signOrBlank_19, mz_rl d_Jacks_signOrBlank_20, mz_rl d_Jacks_signOrBlank_21, j_Jacks_signOrBlank_7, j_Jacks_signOrBlank_12, nF_6, h1, h2, vp_in_nI hk hN, nI_clamp (show k < 2 ^ 31 by omega)]
  refine ⟨fun h => ?_, fun h => ?_⟩
  · rw [if_neg h]
  · rw [if_pos h]
theorem c_Jacks_bring (G : mz_G) (X : mz_E) (n : Nat) (f : mz_H) {a b N q k : Nat} {g : Nat → Int32} {x : Int32} {y : Int32} (h1 : f a = .inr (6, [.int (nI q), .ref b, .int y])) (h2 : f b = aI N g) (hk : k < N) (hN : q + N < 2 ^ 31) : mz_Ct G X y_Jacks_bring b_Jacks_bring 4 none (r_Jacks_bring 0 0) [.ref a, .int (nI (q + k)), .int x] n f (fun v n' f' => v = none ∧ n' = n ∧ f' = mz_u (mz_u f a (.inr (6, [.int (nI q), .ref b, .int (if g k = -1 ∨ g k = x then y else nI 1)]))) b (aI N (upd g k x))) := by
  have hne : a ≠ b := by rintro rfl; rw [h1] at h2; cases h2
  have e : nI (q + k) - nI q = nI k := by rw [pk_sub (by omega)]; congr 1; omega
  refine mk_Ct 6 false [some (.ref a), some (.int (nI (q + k))), some (.int x), none] (by decide) rfl (by decide) (Nat.le_of_ble_eq_true rfl) rfl ?_
  refine mz_go [] 40 ?_
  simp only [mz_r0, mk_lit, mk_fin, mk_cat, mk_fit, mk_nar, mk_cls, mk_ty, mk_isr, List.mem_cons, List.not_mem_nil, or_false, or_true, false_or, true_or, Nat.reduceEqDiff, Nat.reduceAdd, Nat.reduceSub, Nat.reduceLT, Nat.reduceLeDiff, ↓reduceIte, if_true, if_false, List.getElem?_cons_zero, List.getElem?_cons_succ, List.set_cons_zero, List.set_cons_succ, List.length_cons, List.length_nil, mz_s1, mz_s2, mz_cl, true_and, and_true, false_and, and_false, List.append_nil, mk_b0, mk_b1, mk_b2, mk_bn, Value.int.injEq, Option.toList_some, Option.toList_none, List.cons_append, List.nil_append, Classical.not_not, Option.some.injEq, reduceCtorEq, ne_eq, not_true_eq_false, not_false_eq_true, false_implies, true_implies, ev_37, ev_41, ev_79, ft_6_0, fn_6_0, ev_6, ev_43, ft_6_1, fn_6_1, ev_68, ev_0, ev_50, ev_80, ft_6_2, fn_6_2, ev_72, ev_67, mz_rl d_Jacks_bring_0, mz_rl d_Jacks_bring_1, mz_rl d_Jacks_bring_2, mz_rl d_Jacks_bring_5, mz_rl d_Jacks_bring_6, mz_rl d_Jacks_bring_7, mz_rl d_Jacks_bring_8, mz_rl d_Jacks_bring_11, mz_rl d_Jacks_bring_12, mz_rl d_Jacks_bring_13, mz_rl d_Jacks_bring_14, mz_rl d_Jacks_bring_17, mz_rl d_Jacks_bring_18, mz_rl d_Jacks_bring_21, mz_rl d_Jacks_bring_22, mz_rl d_Jacks_bring_23, mz_rl d_Jacks_bring_24, mz_rl d_Jacks_bring_27, mz_rl d_Jacks_bring_28, mz_rl d_Jacks_bring_29, mz_rl d_Jacks_bring_32, mz_rl d_Jacks_bring_33, mz_rl d_Jacks_bring_36, mz_rl d_Jacks_bring_37, mz_rl d_Jacks_bring_38, mz_rl d_Jacks_bring_39, j_Jacks_bring_14, j_Jacks_bring_24, nF_6, h1, h2, e, vp_in_nI hk (show N < 2 ^ 31 by omega), nI_clamp (show k < 2 ^ 31 by omega), mz_u_n hne, mz_u_n (Ne.symm hne), mz_u_s]
  refine ⟨fun h => ?_, fun h => ⟨fun h3 => ?_, fun h3 => ?_⟩⟩
  · rw [if_pos (Or.inl h), mz_ui h1]
  · rw [if_pos (Or.inr h3), mz_ui h1]
  · rw [if_neg (by intro z; rcases z with z | z; exact h z; exact h3 z)]
theorem c_Deck_at (G : mz_G) (X : mz_E) (n : Nat) (f : mz_H) {d a c k sz : Nat} {g : Nat → Option Nat} (h1 : f d = .inr (4, [.ref a, .int (nI sz)])) (h2 : f a = aQ 6 200 g) (hk : k < 200) (hg : g k = some c) : mz_Ct G X y_Deck_at b_Deck_at 2 (some (.object "CardOffice$Card")) (r_Deck_at 0 0) [.ref d, .int (nI k)] n f (fun v n' f' => v = some (.ref c) ∧ n' = n ∧ f' = f) := by
  refine mk_Ct 4 false [some (.ref d), some (.int (nI k))] (by decide) rfl (by decide) (Nat.le_of_ble_eq_true rfl) rfl ?_
  refine mz_go [] 20 ?_
  simp only [mz_r0, mk_lit, mk_fin, mk_cat, mk_fit, mk_nar, mk_cls, mk_ty, mk_isr, List.mem_cons, List.not_mem_nil, or_false, or_true, false_or, true_or, Nat.reduceEqDiff, Nat.reduceAdd, Nat.reduceSub, Nat.reduceLT, Nat.reduceLeDiff, ↓reduceIte, if_true, if_false, List.getElem?_cons_zero, List.getElem?_cons_succ, List.set_cons_zero, List.set_cons_succ, List.length_cons, List.length_nil, mz_s1, mz_s2, mz_cl, true_and, and_true, false_and, and_false, List.append_nil, mk_b0, mk_b1, mk_b2, mk_bn, Value.int.injEq, Option.toList_some, Option.toList_none, List.cons_append, List.nil_append, Classical.not_not, Option.some.injEq, reduceCtorEq, ne_eq, not_true_eq_false, not_false_eq_true, false_implies, true_implies, ev_41, ev_79, ft_4_0, fn_4_0, ev_37, ev_76, ev_66, mz_rl d_Deck_at_0, mz_rl d_Deck_at_1, mz_rl d_Deck_at_4, mz_rl d_Deck_at_5, mz_rl d_Deck_at_6, nF_4, h1, h2, vp_in_nI hk (show 200 < 2 ^ 31 by decide), nI_clamp (show k < 2 ^ 31 by omega), hg, va_rf]
theorem c_Deck_add (G : mz_G) (X : mz_E) (n : Nat) (f : mz_H) {d a c sz : Nat} {g : Nat → Option Nat} {fs : List Value} (h1 : f d = .inr (4, [.ref a, .int (nI sz)])) (h2 : f a = aQ 6 200 g) (h3 : f c = .inr (2, fs)) (hs : sz < 200) : mz_Ct G X y_Deck_add b_Deck_add 2 none (r_Deck_add 0 0) [.ref d, .ref c] n f (fun v n' f' => v = none ∧ n' = n ∧ f' = mz_u (mz_u f a (aQ 6 200 (va_up g sz (some c)))) d (.inr (4, [.ref a, .int (nI (sz + 1))]))) := by
  have hne : d ≠ a := by rintro rfl; rw [h1] at h2; cases h2
  refine mk_Ct 4 false [some (.ref d), some (.ref c)] (by decide) rfl (by decide) (Nat.le_of_ble_eq_true rfl) rfl ?_
  refine mz_go [] 20 ?_
  simp only [mz_r0, mk_lit, mk_fin, mk_cat, mk_fit, mk_nar, mk_cls, mk_ty, mk_isr, List.mem_cons, List.not_mem_nil, or_false, or_true, false_or, true_or, Nat.reduceEqDiff, Nat.reduceAdd, Nat.reduceSub, Nat.reduceLT, Nat.reduceLeDiff, ↓reduceIte, if_true, if_false, List.getElem?_cons_zero, List.getElem?_cons_succ, List.set_cons_zero, List.set_cons_succ, List.length_cons, List.length_nil, mz_s1, mz_s2, mz_cl, true_and, and_true, false_and, and_false, List.append_nil, mk_b0, mk_b1, mk_b2, mk_bn, Value.int.injEq, Option.toList_some, Option.toList_none, List.cons_append, List.nil_append, Classical.not_not, Option.some.injEq, reduceCtorEq, ne_eq, not_true_eq_false, not_false_eq_true, false_implies, true_implies, ev_41, ev_79, ft_4_0, fn_4_0, ft_4_1, fn_4_1, ev_77, ev_32, ev_0, ev_5, ev_80, ev_67, mz_rl d_Deck_add_0, mz_rl d_Deck_add_1, mz_rl d_Deck_add_4, mz_rl d_Deck_add_5, mz_rl d_Deck_add_8, mz_rl d_Deck_add_9, mz_rl d_Deck_add_10, mz_rl d_Deck_add_11, mz_rl d_Deck_add_12, mz_rl d_Deck_add_15, mz_rl d_Deck_add_16, mz_rl d_Deck_add_17, mz_rl d_Deck_add_20, nF_4, h1, h2, h3, mz_u_n hne, nI_add, nI_clamp (show sz < 2 ^ 31 by omega), vp_in_nI hs (show 200 < 2 ^ 31 by decide)]
theorem l_Deck_takeAllOf (G : mz_G) (X : mz_E) (n : Nat) (f : mz_H) {d a o b so sd : Nat} {g go : Nat → Option Nat} (h1 : f d = .inr (4, [.ref a, .int (nI sd)])) (h2 : f a = aQ 6 200 g) (h3 : f o = .inr (4, [.ref b, .int (nI so)])) (h4 : f b = aQ 6 200 go) (hd : d ≠ o) (hab : a ≠ b) (hs : so ≤ 200) (hc : ∀ j, j < so → ∃ c fs, go j = some c ∧ f c = .inr (2, fs)) :
    ∀ m k, k + m = so → mz_X G X 4 false b_Deck_takeAllOf 3 none (r_Deck_takeAllOf 0 0) (fun v n' f' => v = none ∧ n' = n ∧ f' = mz_u (mz_u (mz_u f a (aQ 6 200 (cpy go g so))) d (.inr (4, [.ref a, .int (nI so)]))) o (.inr (4, [.ref b, .int (nI 0)]))) (fun _ _ _ => False) 2 [some (.ref d), some (.ref o), some (.int (nI k))] [] 0 0 n (mz_u f a (aQ 6 200 (cpy go g k))) := by
  have hda : d ≠ a := by rintro rfl; rw [h1] at h2; cases h2
  have hoa : o ≠ a := by rintro rfl; rw [h3] at h2; cases h2
  intro m
  induction m with
  | zero =>
    intro k hk
    refine mz_go [2] 30 ?_
    simp only [mz_r0, mk_lit, mk_fin, mk_cat, mk_fit, mk_nar, mk_cls, mk_ty, mk_isr, List.mem_cons, List.not_mem_nil, or_false, or_true, false_or, true_or, Nat.reduceEqDiff, Nat.reduceAdd, Nat.reduceSub, Nat.reduceLT, Nat.reduceLeDiff, ↓reduceIte, if_true, if_false, List.getElem?_cons_zero, List.getElem?_cons_succ, List.set_cons_zero, List.set_cons_succ, List.length_cons, List.length_nil, mz_s1, mz_s2, mz_cl, true_and, and_true, false_and, and_false, List.append_nil, mk_b0, mk_b1, mk_b2, mk_bn, Value.int.injEq, Option.toList_some, Option.toList_none, List.cons_append, List.nil_append, Classical.not_not, Option.some.injEq, reduceCtorEq, ne_eq, not_true_eq_false, not_false_eq_true, false_implies, true_implies, ev_37, ev_41, ev_79, ft_4_1, fn_4_1, ev_56, ft_4_0, fn_4_0, ev_76, ev_77, ev_48, ev_61, ev_80, ev_0, ev_67, mz_rl d_Deck_takeAllOf_2, mz_rl d_Deck_takeAllOf_3, mz_rl d_Deck_takeAllOf_4, mz_rl d_Deck_takeAllOf_7, mz_rl d_Deck_takeAllOf_10, mz_rl d_Deck_takeAllOf_11, mz_rl d_Deck_takeAllOf_14, mz_rl d_Deck_takeAllOf_15, mz_rl d_Deck_takeAllOf_16, mz_rl d_Deck_takeAllOf_19, mz_rl d_Deck_takeAllOf_20, mz_rl d_Deck_takeAllOf_21, mz_rl d_Deck_takeAllOf_22, mz_rl d_Deck_takeAllOf_25, mz_rl d_Deck_takeAllOf_28, mz_rl d_Deck_takeAllOf_29, mz_rl d_Deck_takeAllOf_30, mz_rl d_Deck_takeAllOf_33, mz_rl d_Deck_takeAllOf_36, mz_rl d_Deck_takeAllOf_37, mz_rl d_Deck_takeAllOf_38, mz_rl d_Deck_takeAllOf_41, j_Deck_takeAllOf_7, j_Deck_takeAllOf_25, nF_4, h1, h3, mz_u_n hda, mz_u_n hoa, nI_leI (show so < 2 ^ 31 by omega) (show k < 2 ^ 31 by omega), mz_u_n (Ne.symm hd), mz_u_s]
    refine ⟨fun _ => ?_, fun h => absurd (show so ≤ k by omega) h⟩
    rw [show k = so by omega]
  | succ m ih =>
    intro k hk
    obtain ⟨c, fs, e1, e2⟩ := hc k (by omega)
    have hca : c ≠ a := by rintro rfl; rw [e2] at h2; cases h2
    refine mz_go [2] 30 ?_
    simp only [mz_r0, mk_lit, mk_fin, mk_cat, mk_fit, mk_nar, mk_cls, mk_ty, mk_isr, List.mem_cons, List.not_mem_nil, or_false, or_true, false_or, true_or, Nat.reduceEqDiff, Nat.reduceAdd, Nat.reduceSub, Nat.reduceLT, Nat.reduceLeDiff, ↓reduceIte, if_true, if_false, List.getElem?_cons_zero, List.getElem?_cons_succ, List.set_cons_zero, List.set_cons_succ, List.length_cons, List.length_nil, mz_s1, mz_s2, mz_cl, true_and, and_true, false_and, and_false, List.append_nil, mk_b0, mk_b1, mk_b2, mk_bn, Value.int.injEq, Option.toList_some, Option.toList_none, List.cons_append, List.nil_append, Classical.not_not, Option.some.injEq, reduceCtorEq, ne_eq, not_true_eq_false, not_false_eq_true, false_implies, true_implies, ev_37, ev_41, ev_79, ft_4_1, fn_4_1, ev_56, ft_4_0, fn_4_0, ev_76, ev_77, ev_48, ev_61, ev_80, ev_0, ev_67, mz_rl d_Deck_takeAllOf_2, mz_rl d_Deck_takeAllOf_3, mz_rl d_Deck_takeAllOf_4, mz_rl d_Deck_takeAllOf_7, mz_rl d_Deck_takeAllOf_10, mz_rl d_Deck_takeAllOf_11, mz_rl d_Deck_takeAllOf_14, mz_rl d_Deck_takeAllOf_15, mz_rl d_Deck_takeAllOf_16, mz_rl d_Deck_takeAllOf_19, mz_rl d_Deck_takeAllOf_20, mz_rl d_Deck_takeAllOf_21, mz_rl d_Deck_takeAllOf_22, mz_rl d_Deck_takeAllOf_25, mz_rl d_Deck_takeAllOf_28, mz_rl d_Deck_takeAllOf_29, mz_rl d_Deck_takeAllOf_30, mz_rl d_Deck_takeAllOf_33, mz_rl d_Deck_takeAllOf_36, mz_rl d_Deck_takeAllOf_37, mz_rl d_Deck_takeAllOf_38, mz_rl d_Deck_takeAllOf_41, j_Deck_takeAllOf_7, j_Deck_takeAllOf_25, nF_4, h1, h3, h4, mz_u_n hda, mz_u_n hoa, mz_u_n (Ne.symm hab), mz_u_n hca, e2, nI_leI (show so < 2 ^ 31 by omega) (show k < 2 ^ 31 by omega), show ¬ so ≤ k by omega, mz_u_s, vp_in_nI (show k < 200 by omega) (show 200 < 2 ^ 31 by decide), nI_clamp (show k < 2 ^ 31 by omega), e1, va_rf, nI_add, mz_uu]
    rw [← e1, cpy_up go g k]
    exact ih (k + 1) (by omega)
theorem c_Deck_takeAllOf (G : mz_G) (X : mz_E) (n : Nat) (f : mz_H) {d a o b so sd : Nat} {g go : Nat → Option Nat} (h1 : f d = .inr (4, [.ref a, .int (nI sd)])) (h2 : f a = aQ 6 200 g) (h3 : f o = .inr (4, [.ref b, .int (nI so)])) (h4 : f b = aQ 6 200 go) (hd : d ≠ o) (hab : a ≠ b) (hs : so ≤ 200) (hc : ∀ j, j < so → ∃ c fs, go j = some c ∧ f c = .inr (2, fs)) :
    mz_Ct G X y_Deck_takeAllOf b_Deck_takeAllOf 3 none (r_Deck_takeAllOf 0 0) [.ref d, .ref o] n f (fun v n' f' => v = none ∧ n' = n ∧ f' = mz_u (mz_u (mz_u f a (aQ 6 200 (cpy go g so))) d (.inr (4, [.ref a, .int (nI so)]))) o (.inr (4, [.ref b, .int (nI 0)]))) := by
  refine mk_Ct 4 false [some (.ref d), some (.ref o), none] (by decide) rfl (by decide) (Nat.le_of_ble_eq_true rfl) rfl ?_
  refine mz_go [2] 6 ?_
  simp only [mz_r0, mk_lit, mk_fin, mk_cat, mk_fit, mk_nar, mk_cls, mk_ty, mk_isr, List.mem_cons, List.not_mem_nil, or_false, or_true, false_or, true_or, Nat.reduceEqDiff, Nat.reduceAdd, Nat.reduceSub, Nat.reduceLT, Nat.reduceLeDiff, ↓reduceIte, if_true, if_false, List.getElem?_cons_zero, List.getElem?_cons_succ, List.set_cons_zero, List.set_cons_succ, List.length_cons, List.length_nil, mz_s1, mz_s2, mz_cl, true_and, and_true, false_and, and_false, List.append_nil, mk_b0, mk_b1, mk_b2, mk_bn, Value.int.injEq, Option.toList_some, Option.toList_none, List.cons_append, List.nil_append, Classical.not_not, Option.some.injEq, reduceCtorEq, ne_eq, not_true_eq_false, not_false_eq_true, false_implies, true_implies, ev_0, ev_43, mz_rl d_Deck_takeAllOf_0, mz_rl d_Deck_takeAllOf_1, nF_4]
  have := l_Deck_takeAllOf G X n f h1 h2 h3 h4 hd hab hs hc so 0 (by omega)
  rw [cpy_0, mz_ui h2] at this
  exact this
end
section
/-- the cards 0 .. K-1, card k at 172 + 2k, its signs s k -/
def Cd (f : mz_H) (K : Nat) (s : Nat → Nat → Nat) : Prop := ∀ k, k < K → f (172 + 2 * k) = .inr (2, [.ref (173 + 2 * k)]) ∧ f (173 + 2 * k) = aI 16 (fun j => nI (s k j)) ∧ ∀ j, j < 16 → sg (s k j)
/-- the first sz places of g are the cards c 0, c 1 .. -/
def Ps (g : Nat → Option Nat) (sz : Nat) (c : Nat → Nat) (K : Nat) : Prop := ∀ j, j < sz → g j = some (172 + 2 * c j) ∧ c j < K
theorem Cd_u {f : mz_H} {K : Nat} {s : Nat → Nat → Nat} (h : Cd f K s) {a : Nat} (ha : a < 172) (x : mz_C) : Cd (mz_u f a x) K s := fun k hk => by
  rw [mz_u_n (by omega), mz_u_n (by omega)]; exact h k hk
/-- how two cards stand to each other on a field -/
def cmpC (s : Nat → Nat → Nat) (fr to x y : Nat) : Int32 := cmpK (s x) (s y) fr (to + 1 - fr)
def srtB (s : Nat → Nat → Nat) (fr to : Nat) (c : Nat → Nat) : Nat → Nat → Bool
  | _, 0 => true
  | i, m + 1 => if cmpC s fr to (c i) (c (i - 1)) < 0 then false else srtB s fr to c (i + 1) m
theorem l_Deck_isSorted (G : mz_G) (X : mz_E) (n : Nat) (f : mz_H) {d a sz fr to K : Nat} {g : Nat → Option Nat} {s : Nat → Nat → Nat} {c : Nat → Nat} (h1 : f d = .inr (4, [.ref a, .int (nI sz)])) (h2 : f a = aQ 6 200 g) (hs : sz ≤ 200) (hC : Cd f K s) (hP : Ps g sz c K) (hf : fr ≤ to) (ht : to < 16) (R : Bool) :
    ∀ m i, 1 ≤ i → (i + m = sz ∨ m = 0 ∧ sz ≤ i) → i < 2 ^ 31 → srtB s fr to c i m = R → mz_X G X 4 false b_Deck_isSorted 4 (some .boolean) (r_Deck_isSorted 0 0) (fun v n' f' => v = some (.int (mk_b (R = true))) ∧ n' = n ∧ f' = f) (fun _ _ _ => False) 2 [some (.ref d), some (.int (nI fr)), some (.int (nI to)), some (.int (nI i))] [] 0 0 n f := by
  intro m
  induction m with
  | zero =>
    intro i h0 hi hi2 hR
    refine mz_go [2] 12 ?_
    simp only [mz_r0, mk_lit, mk_fin, mk_cat, mk_fit, mk_nar, mk_cls, mk_ty, mk_isr, List.mem_cons, List.not_mem_nil, or_false, or_true, false_or, true_or, Nat.reduceEqDiff, Nat.reduceAdd, Nat.reduceSub, Nat.reduceLT, Nat.reduceLeDiff, ↓reduceIte, if_true, if_false, List.getElem?_cons_zero, List.getElem?_cons_succ, List.set_cons_zero, List.set_cons_succ, List.length_cons, List.length_nil, mz_s1, mz_s2, mz_cl, true_and, and_true, false_and, and_false, List.append_nil, mk_b0, mk_b1, mk_b2, mk_bn, Value.int.injEq, Option.toList_some, Option.toList_none, List.cons_append, List.nil_append, Classical.not_not, Option.some.injEq, reduceCtorEq, ne_eq, not_true_eq_false, not_false_eq_true, false_implies, true_implies, ev_37, ev_41, ev_79, ft_4_1, fn_4_1, ev_56, ft_4_0, fn_4_0, ev_76, ev_0, ev_6, ev_64, mz_rl d_Deck_isSorted_2, mz_rl d_Deck_isSorted_3, mz_rl d_Deck_isSorted_4, mz_rl d_Deck_isSorted_7, mz_rl d_Deck_isSorted_10, mz_rl d_Deck_isSorted_11, mz_rl d_Deck_isSorted_14, mz_rl d_Deck_isSorted_15, mz_rl d_Deck_isSorted_16, mz_rl d_Deck_isSorted_17, mz_rl d_Deck_isSorted_20, mz_rl d_Deck_isSorted_21, mz_rl d_Deck_isSorted_22, mz_rl d_Deck_isSorted_23, mz_rl d_Deck_isSorted_24, mz_rl d_Deck_isSorted_25, mz_rl d_Deck_isSorted_26, mz_rl d_Deck_isSorted_40, mz_rl d_Deck_isSorted_41, j_Deck_isSorted_7, nF_4, h1, nI_leI (show sz < 2 ^ 31 by omega) hi2]
    refine ⟨fun _ => hR.symm, fun h => absurd (show sz ≤ i by omega) h⟩
  | succ m ih =>
    intro i h0 hi hi2 hR
    have hlt : i < sz := by omega
    have e1 := hP i hlt
    have e2 := hP (i - 1) (by omega)
    have q1 := hC _ e1.2
    have q2 := hC _ e2.2
    have es : nI i - nI 1 = nI (i - 1) := pk_sub h0
    refine mz_go [26] 20 ?_
    simp only [mz_r0, mk_lit, mk_fin, mk_cat, mk_fit, mk_nar, mk_cls, mk_ty, mk_isr, List.mem_cons, List.not_mem_nil, or_false, or_true, false_or, true_or, Nat.reduceEqDiff, Nat.reduceAdd, Nat.reduceSub, Nat.reduceLT, Nat.reduceLeDiff, ↓reduceIte, if_true, if_false, List.getElem?_cons_zero, List.getElem?_cons_succ, List.set_cons_zero, List.set_cons_succ, List.length_cons, List.length_nil, mz_s1, mz_s2, mz_cl, true_and, and_true, false_and, and_false, List.append_nil, mk_b0, mk_b1, mk_b2, mk_bn, Value.int.injEq, Option.toList_some, Option.toList_none, List.cons_append, List.nil_append, Classical.not_not, Option.some.injEq, reduceCtorEq, ne_eq, not_true_eq_false, not_false_eq_true, false_implies, true_implies, ev_37, ev_41, ev_79, ft_4_1, fn_4_1, ev_56, ft_4_0, fn_4_0, ev_76, ev_0, ev_6, ev_64, mz_rl d_Deck_isSorted_2, mz_rl d_Deck_isSorted_3, mz_rl d_Deck_isSorted_4, mz_rl d_Deck_isSorted_7, mz_rl d_Deck_isSorted_10, mz_rl d_Deck_isSorted_11, mz_rl d_Deck_isSorted_14, mz_rl d_Deck_isSorted_15, mz_rl d_Deck_isSorted_16, mz_rl d_Deck_isSorted_17, mz_rl d_Deck_isSorted_20, mz_rl d_Deck_isSorted_21, mz_rl d_Deck_isSorted_22, mz_rl d_Deck_isSorted_23, mz_rl d_Deck_isSorted_24, mz_rl d_Deck_isSorted_25, mz_rl d_Deck_isSorted_40, mz_rl d_Deck_isSorted_41, j_Deck_isSorted_7, nF_4, h1, h2, nI_leI (show sz < 2 ^ 31 by omega) hi2, show ¬ sz ≤ i by omega, vp_in_nI (show i < 200 by omega) (show 200 < 2 ^ 31 by decide), nI_clamp hi2, es, vp_in_nI (show i - 1 < 200 by omega) (show 200 < 2 ^ 31 by decide), nI_clamp (show i - 1 < 2 ^ 31 by omega), e1.1, e2.1, va_rf]
    refine mz_callV (by simp only [d_Deck_isSorted_26, Nat.reduceAdd]) g_4_31 rfl (fun _ _ h => h) (c_Card_compareOn G X n f q1.1 q2.1 q1.2.1 q2.2.1 q1.2.2 q2.2.2 hf ht) q1.1 rfl rfl (by decide) (Nat.le_of_ble_eq_true rfl) rfl ?_; intro v_ n_ f_ h_; obtain ⟨rfl, hn_, hf_⟩ := h_; replace hn_ := hn_.symm; replace hf_ := hf_.symm; subst hn_; subst hf_
    unfold srtB at hR
    refine mz_go [2] 20 ?_
    simp only [mz_r0, mk_lit, mk_fin, mk_cat, mk_fit, mk_nar, mk_cls, mk_ty, mk_isr, List.mem_cons, List.not_mem_nil, or_false, or_true, false_or, true_or, Nat.reduceEqDiff, Nat.reduceAdd, Nat.reduceSub, Nat.reduceLT, Nat.reduceLeDiff, ↓reduceIte, if_true, if_false, List.getElem?_cons_zero, List.getElem?_cons_succ, List.set_cons_zero, List.set_cons_succ, List.length_cons, List.length_nil, mz_s1, mz_s2, mz_cl, true_and, and_true, false_and, and_false, List.append_nil, mk_b0, mk_b1, mk_b2, mk_bn, Value.int.injEq, Option.toList_some, Option.toList_none, List.cons_append, List.nil_append, Classical.not_not, Option.some.injEq, reduceCtorEq, ne_eq, not_true_eq_false, not_false_eq_true, false_implies, true_implies, ev_55, ev_0, ev_64, ev_48, ev_61, mz_rl d_Deck_isSorted_29, mz_rl d_Deck_isSorted_32, mz_rl d_Deck_isSorted_33, mz_rl d_Deck_isSorted_34, mz_rl d_Deck_isSorted_37, j_Deck_isSorted_29, j_Deck_isSorted_37, nF_4, nI_add]
    refine ⟨fun h => ?_, fun h => ?_⟩
    · rw [if_neg (by unfold cmpC; rw [mk_lt]; rw [mk_le] at h; omega)] at hR
      exact ih (i + 1) (by omega) (by omega) (by omega) hR
    · rw [if_pos (by unfold cmpC; rw [mk_lt]; rw [mk_le] at h; omega)] at hR
      rw [← hR]; decide
theorem c_Deck_isSorted (G : mz_G) (X : mz_E) (n : Nat) (f : mz_H) {d a sz fr to K : Nat} {g : Nat → Option Nat} {s : Nat → Nat → Nat} {c : Nat → Nat} (h1 : f d = .inr (4, [.ref a, .int (nI sz)])) (h2 : f a = aQ 6 200 g) (hs : sz ≤ 200) (hC : Cd f K s) (hP : Ps g sz c K) (hf : fr ≤ to) (ht : to < 16) :
    mz_Ct G X y_Deck_isSorted b_Deck_isSorted 4 (some .boolean) (r_Deck_isSorted 0 0) [.ref d, .int (nI fr), .int (nI to)] n f (fun v n' f' => v = some (.int (mk_b (srtB s fr to c 1 (sz - 1) = true))) ∧ n' = n ∧ f' = f) := by
  refine mk_Ct 4 false [some (.ref d), some (.int (nI fr)), some (.int (nI to)), none] (by decide) rfl (by decide) (Nat.le_of_ble_eq_true rfl) rfl ?_
  refine mz_go [2] 6 ?_
  simp only [mz_r0, mk_lit, mk_fin, mk_cat, mk_fit, mk_nar, mk_cls, mk_ty, mk_isr, List.mem_cons, List.not_mem_nil, or_false, or_true, false_or, true_or, Nat.reduceEqDiff, Nat.reduceAdd, Nat.reduceSub, Nat.reduceLT, Nat.reduceLeDiff, ↓reduceIte, if_true, if_false, List.getElem?_cons_zero, List.getElem?_cons_succ, List.set_cons_zero, List.set_cons_succ, List.length_cons, List.length_nil, mz_s1, mz_s2, mz_cl, true_and, and_true, false_and, and_false, List.append_nil, mk_b0, mk_b1, mk_b2, mk_bn, Value.int.injEq, Option.toList_some, Option.toList_none, List.cons_append, List.nil_append, Classical.not_not, Option.some.injEq, reduceCtorEq, ne_eq, not_true_eq_false, not_false_eq_true, false_implies, true_implies, ev_0, ev_43, mz_rl d_Deck_isSorted_0, mz_rl d_Deck_isSorted_1, nF_4]
  exact l_Deck_isSorted G X n f h1 h2 hs hC hP hf ht _ (sz - 1) 1 (by omega) (by omega) (by decide) rfl
def znB (s : Nat → Nat → Nat) (col : Nat) (c : Nat → Nat) : Nat → Nat → Bool
  | _, 0 => false
  | i, m + 1 => if 0 < zn (s (c i) col) then true else znB s col c (i + 1) m
theorem zn_lt (c : Nat) : zn c < 4 := by unfold zn; split; omega; split; omega; split <;> omega
theorem dp_lt {c : Nat} (h : sg c) : dp c < 11 := by
  unfold sg at h; unfold dp dgN
  split; omega; split; omega; split; omega; split <;> omega
theorem l_Deck_hasZoneIn (G : mz_G) (X : mz_E) (n : Nat) (f : mz_H) {d a sz col K : Nat} {g : Nat → Option Nat} {s : Nat → Nat → Nat} {c : Nat → Nat} (h1 : f d = .inr (4, [.ref a, .int (nI sz)])) (h2 : f a = aQ 6 200 g) (hs : sz ≤ 200) (hC : Cd f K s) (hP : Ps g sz c K) (hc : col < 16) (R : Bool) :
    ∀ m i, i + m = sz → znB s col c i m = R → mz_X G X 4 false b_Deck_hasZoneIn 3 (some .boolean) (r_Deck_hasZoneIn 0 0) (fun v n' f' => v = some (.int (mk_b (R = true))) ∧ n' = n ∧ f' = f) (fun _ _ _ => False) 2 [some (.ref d), some (.int (nI col)), some (.int (nI i))] [] 0 0 n f := by
  intro m
  induction m with
  | zero =>
    intro i hi hR
    refine mz_go [2] 12 ?_
    simp only [mz_r0, mk_lit, mk_fin, mk_cat, mk_fit, mk_nar, mk_cls, mk_ty, mk_isr, List.mem_cons, List.not_mem_nil, or_false, or_true, false_or, true_or, Nat.reduceEqDiff, Nat.reduceAdd, Nat.reduceSub, Nat.reduceLT, Nat.reduceLeDiff, ↓reduceIte, if_true, if_false, List.getElem?_cons_zero, List.getElem?_cons_succ, List.set_cons_zero, List.set_cons_succ, List.length_cons, List.length_nil, mz_s1, mz_s2, mz_cl, true_and, and_true, false_and, and_false, List.append_nil, mk_b0, mk_b1, mk_b2, mk_bn, Value.int.injEq, Option.toList_some, Option.toList_none, List.cons_append, List.nil_append, Classical.not_not, Option.some.injEq, reduceCtorEq, ne_eq, not_true_eq_false, not_false_eq_true, false_implies, true_implies, ev_37, ev_41, ev_79, ft_4_1, fn_4_1, ev_56, ft_4_0, fn_4_0, ev_76, ft_2_0, fn_2_0, ev_68, ev_0, ev_64, mz_rl d_Deck_hasZoneIn_2, mz_rl d_Deck_hasZoneIn_3, mz_rl d_Deck_hasZoneIn_4, mz_rl d_Deck_hasZoneIn_7, mz_rl d_Deck_hasZoneIn_10, mz_rl d_Deck_hasZoneIn_11, mz_rl d_Deck_hasZoneIn_14, mz_rl d_Deck_hasZoneIn_15, mz_rl d_Deck_hasZoneIn_16, mz_rl d_Deck_hasZoneIn_19, mz_rl d_Deck_hasZoneIn_20, mz_rl d_Deck_hasZoneIn_21, mz_rl d_Deck_hasZoneIn_35, mz_rl d_Deck_hasZoneIn_36, j_Deck_hasZoneIn_7, nF_4, h1, nI_leI (show sz < 2 ^ 31 by omega) (show i < 2 ^ 31 by omega)]
    refine ⟨fun _ => ?_, fun h => absurd (show sz ≤ i by omega) h⟩
    rw [← hR]; simp [znB]
  | succ m ih =>
    intro i hi hR
    have hlt : i < sz := by omega
    have e1 := hP i hlt
    have q1 := hC _ e1.2
    refine mz_go [21] 20 ?_
    simp only [mz_r0, mk_lit, mk_fin, mk_cat, mk_fit, mk_nar, mk_cls, mk_ty, mk_isr, List.mem_cons, List.not_mem_nil, or_false, or_true, false_or, true_or, Nat.reduceEqDiff, Nat.reduceAdd, Nat.reduceSub, Nat.reduceLT, Nat.reduceLeDiff, ↓reduceIte, if_true, if_false, List.getElem?_cons_zero, List.getElem?_cons_succ, List.set_cons_zero, List.set_cons_succ, List.length_cons, List.length_nil, mz_s1, mz_s2, mz_cl, true_and, and_true, false_and, and_false, List.append_nil, mk_b0, mk_b1, mk_b2, mk_bn, Value.int.injEq, Option.toList_some, Option.toList_none, List.cons_append, List.nil_append, Classical.not_not, Option.some.injEq, reduceCtorEq, ne_eq, not_true_eq_false, not_false_eq_true, false_implies, true_implies, ev_37, ev_41, ev_79, ft_4_1, fn_4_1, ev_56, ft_4_0, fn_4_0, ev_76, ft_2_0, fn_2_0, ev_68, ev_0, ev_64, mz_rl d_Deck_hasZoneIn_2, mz_rl d_Deck_hasZoneIn_3, mz_rl d_Deck_hasZoneIn_4, mz_rl d_Deck_hasZoneIn_7, mz_rl d_Deck_hasZoneIn_10, mz_rl d_Deck_hasZoneIn_11, mz_rl d_Deck_hasZoneIn_14, mz_rl d_Deck_hasZoneIn_15, mz_rl d_Deck_hasZoneIn_16, mz_rl d_Deck_hasZoneIn_19, mz_rl d_Deck_hasZoneIn_20, mz_rl d_Deck_hasZoneIn_35, mz_rl d_Deck_hasZoneIn_36, j_Deck_hasZoneIn_7, nF_4, h1, h2, nI_leI (show sz < 2 ^ 31 by omega) (show i < 2 ^ 31 by omega), show ¬ sz ≤ i by omega, vp_in_nI (show i < 200 by omega) (show 200 < 2 ^ 31 by decide), nI_clamp (show i < 2 ^ 31 by omega), e1.1, va_rf, q1.1, q1.2.1, vp_in_nI hc (show 16 < 2 ^ 31 by decide), nI_clamp (show col < 2 ^ 31 by omega)]
    refine mz_callS (by simp only [d_Deck_hasZoneIn_21, Nat.reduceAdd]) g_4_39 rfl (fun _ _ h => h) (c_Office_zoneOf G X n f (q1.2.2 col hc)) (by decide) (Nat.le_of_ble_eq_true rfl) rfl ?_; intro v_ n_ f_ h_; obtain ⟨rfl, hn_, hf_⟩ := h_; replace hn_ := hn_.symm; replace hf_ := hf_.symm; subst hn_; subst hf_
    unfold znB at hR
    refine mz_go [2] 20 ?_
    have hz := zn_lt (s (c i) col)
    simp only [mz_r0, mk_lit, mk_fin, mk_cat, mk_fit, mk_nar, mk_cls, mk_ty, mk_isr, List.mem_cons, List.not_mem_nil, or_false, or_true, false_or, true_or, Nat.reduceEqDiff, Nat.reduceAdd, Nat.reduceSub, Nat.reduceLT, Nat.reduceLeDiff, ↓reduceIte, if_true, if_false, List.getElem?_cons_zero, List.getElem?_cons_succ, List.set_cons_zero, List.set_cons_succ, List.length_cons, List.length_nil, mz_s1, mz_s2, mz_cl, true_and, and_true, false_and, and_false, List.append_nil, mk_b0, mk_b1, mk_b2, mk_bn, Value.int.injEq, Option.toList_some, Option.toList_none, List.cons_append, List.nil_append, Classical.not_not, Option.some.injEq, reduceCtorEq, ne_eq, not_true_eq_false, not_false_eq_true, false_implies, true_implies, ev_59, ev_0, ev_64, ev_48, ev_61, mz_rl d_Deck_hasZoneIn_24, mz_rl d_Deck_hasZoneIn_27, mz_rl d_Deck_hasZoneIn_28, mz_rl d_Deck_hasZoneIn_29, mz_rl d_Deck_hasZoneIn_32, j_Deck_hasZoneIn_24, j_Deck_hasZoneIn_32, nF_4, nI_add, mk_le, mk_ti, mk_nti (show zn (s (c i) col) < 2 ^ 31 by omega)]
    refine ⟨fun h => ?_, fun h => ?_⟩
    · rw [if_neg (by omega)] at hR
      exact ih (i + 1) (by omega) hR
    · rw [if_pos (by omega)] at hR
      exact hR.symm
theorem c_Deck_hasZoneIn (G : mz_G) (X : mz_E) (n : Nat) (f : mz_H) {d a sz col K : Nat} {g : Nat → Option Nat} {s : Nat → Nat → Nat} {c : Nat → Nat} (h1 : f d = .inr (4, [.ref a, .int (nI sz)])) (h2 : f a = aQ 6 200 g) (hs : sz ≤ 200) (hC : Cd f K s) (hP : Ps g sz c K) (hc : col < 16) :
    mz_Ct G X y_Deck_hasZoneIn b_Deck_hasZoneIn 3 (some .boolean) (r_Deck_hasZoneIn 0 0) [.ref d, .int (nI col)] n f (fun v n' f' => v = some (.int (mk_b (znB s col c 0 sz = true))) ∧ n' = n ∧ f' = f) := by
  refine mk_Ct 4 false [some (.ref d), some (.int (nI col)), none] (by decide) rfl (by decide) (Nat.le_of_ble_eq_true rfl) rfl ?_
  refine mz_go [2] 6 ?_
  simp only [mz_r0, mk_lit, mk_fin, mk_cat, mk_fit, mk_nar, mk_cls, mk_ty, mk_isr, List.mem_cons, List.not_mem_nil, or_false, or_true, false_or, true_or, Nat.reduceEqDiff, Nat.reduceAdd, Nat.reduceSub, Nat.reduceLT, Nat.reduceLeDiff, ↓reduceIte, if_true, if_false, List.getElem?_cons_zero, List.getElem?_cons_succ, List.set_cons_zero, List.set_cons_succ, List.length_cons, List.length_nil, mz_s1, mz_s2, mz_cl, true_and, and_true, false_and, and_false, List.append_nil, mk_b0, mk_b1, mk_b2, mk_bn, Value.int.injEq, Option.toList_some, Option.toList_none, List.cons_append, List.nil_append, Classical.not_not, Option.some.injEq, reduceCtorEq, ne_eq, not_true_eq_false, not_false_eq_true, false_implies, true_implies, ev_0, ev_43, mz_rl d_Deck_hasZoneIn_0, mz_rl d_Deck_hasZoneIn_1, nF_4]
  exact l_Deck_hasZoneIn G X n f h1 h2 hs hC hP hc _ sz 0 (by omega) rfl
/-- which pocket a card falls into -/
def pk (s : Nat → Nat → Nat) (col : Nat) (z : Bool) (x : Nat) : Nat := if z then zn (s x col) else dp (s x col)
theorem c_Sorter_pocketOf (G : mz_G) (X : mz_E) (n : Nat) (f : mz_H) {x col K : Nat} {s : Nat → Nat → Nat} (hC : Cd f K s) (hx : x < K) (hc : col < 16) (z : Bool) : mz_Ct G X y_Sorter_pocketOf b_Sorter_pocketOf 4 (some .int) (r_Sorter_pocketOf 0 0) [.ref (172 + 2 * x), .int (nI col), .int (mk_b (z = true))] n f (fun v n' f' => v = some (.int (nI (pk s col z x))) ∧ n' = n ∧ f' = f) := by
  have q1 := hC _ hx
  refine mk_Ct 9 false [some (.ref (172 + 2 * x)), some (.int (nI col)), some (.int (mk_b (z = true))), none] (by decide) rfl (by decide) (Nat.le_of_ble_eq_true rfl) rfl ?_
  refine mz_go [12, 19] 20 ?_
  simp only [mz_r0, mk_lit, mk_fin, mk_cat, mk_fit, mk_nar, mk_cls, mk_ty, mk_isr, List.mem_cons, List.not_mem_nil, or_false, or_true, false_or, true_or, Nat.reduceEqDiff, Nat.reduceAdd, Nat.reduceSub, Nat.reduceLT, Nat.reduceLeDiff, ↓reduceIte, if_true, if_false, List.getElem?_cons_zero, List.getElem?_cons_succ, List.set_cons_zero, List.set_cons_succ, List.length_cons, List.length_nil, mz_s1, mz_s2, mz_cl, true_and, and_true, false_and, and_false, List.append_nil, mk_b0, mk_b1, mk_b2, mk_bn, Value.int.injEq, Option.toList_some, Option.toList_none, List.cons_append, List.nil_append, Classical.not_not, Option.some.injEq, reduceCtorEq, ne_eq, not_true_eq_false, not_false_eq_true, false_implies, true_implies, ev_41, ev_79, ft_2_0, fn_2_0, ev_37, ev_68, ev_43, ev_49, mz_rl d_Sorter_pocketOf_0, mz_rl d_Sorter_pocketOf_1, mz_rl d_Sorter_pocketOf_4, mz_rl d_Sorter_pocketOf_5, mz_rl d_Sorter_pocketOf_6, mz_rl d_Sorter_pocketOf_7, mz_rl d_Sorter_pocketOf_8, mz_rl d_Sorter_pocketOf_11, mz_rl d_Sorter_pocketOf_18, j_Sorter_pocketOf_8, nF_9, q1.1, q1.2.1, vp_in_nI hc (show 16 < 2 ^ 31 by decide), nI_clamp (show col < 2 ^ 31 by omega)]
  refine ⟨fun h => ?_, fun h => ?_⟩
  · refine mz_callS (by simp only [d_Sorter_pocketOf_19, Nat.reduceAdd]) g_9_74 rfl (fun _ _ h => h) (c_Office_digitPocketOf G X n f (q1.2.2 col hc)) (by decide) (Nat.le_of_ble_eq_true rfl) rfl ?_; intro v_ n_ f_ h_; obtain ⟨rfl, hn_, hf_⟩ := h_; replace hn_ := hn_.symm; replace hf_ := hf_.symm; subst hn_; subst hf_
    refine mz_go [] 20 ?_
    simp only [mz_r0, mk_lit, mk_fin, mk_cat, mk_fit, mk_nar, mk_cls, mk_ty, mk_isr, List.mem_cons, List.not_mem_nil, or_false, or_true, false_or, true_or, Nat.reduceEqDiff, Nat.reduceAdd, Nat.reduceSub, Nat.reduceLT, Nat.reduceLeDiff, ↓reduceIte, if_true, if_false, List.getElem?_cons_zero, List.getElem?_cons_succ, List.set_cons_zero, List.set_cons_succ, List.length_cons, List.length_nil, mz_s1, mz_s2, mz_cl, true_and, and_true, false_and, and_false, List.append_nil, mk_b0, mk_b1, mk_b2, mk_bn, Value.int.injEq, Option.toList_some, Option.toList_none, List.cons_append, List.nil_append, Classical.not_not, Option.some.injEq, reduceCtorEq, ne_eq, not_true_eq_false, not_false_eq_true, false_implies, true_implies, ev_64, mz_rl d_Sorter_pocketOf_22, nF_9, pk, h]
  · refine mz_callS (by simp only [d_Sorter_pocketOf_12, Nat.reduceAdd]) g_9_70 rfl (fun _ _ h => h) (c_Office_zoneOf G X n f (q1.2.2 col hc)) (by decide) (Nat.le_of_ble_eq_true rfl) rfl ?_; intro v_ n_ f_ h_; obtain ⟨rfl, hn_, hf_⟩ := h_; replace hn_ := hn_.symm; replace hf_ := hf_.symm; subst hn_; subst hf_
    refine mz_go [] 20 ?_
    simp only [mz_r0, mk_lit, mk_fin, mk_cat, mk_fit, mk_nar, mk_cls, mk_ty, mk_isr, List.mem_cons, List.not_mem_nil, or_false, or_true, false_or, true_or, Nat.reduceEqDiff, Nat.reduceAdd, Nat.reduceSub, Nat.reduceLT, Nat.reduceLeDiff, ↓reduceIte, if_true, if_false, List.getElem?_cons_zero, List.getElem?_cons_succ, List.set_cons_zero, List.set_cons_succ, List.length_cons, List.length_nil, mz_s1, mz_s2, mz_cl, true_and, and_true, false_and, and_false, List.append_nil, mk_b0, mk_b1, mk_b2, mk_bn, Value.int.injEq, Option.toList_some, Option.toList_none, List.cons_append, List.nil_append, Classical.not_not, Option.some.injEq, reduceCtorEq, ne_eq, not_true_eq_false, not_false_eq_true, false_implies, true_implies, ev_61, ev_64, mz_rl d_Sorter_pocketOf_15, mz_rl d_Sorter_pocketOf_22, j_Sorter_pocketOf_15, nF_9, pk, h]
end
section
def cntP (q : Nat → Nat) (p : Nat) : Nat → Nat
  | 0 => 0
  | m + 1 => cntP q p m + if q m = p then 1 else 0
def sm (cn : Nat → Nat) : Nat → Nat
  | 0 => 0
  | p + 1 => sm cn p + cn p
def us (cn : Nat → Nat) : Nat → Nat
  | 0 => 0
  | p + 1 => us cn p + if 0 < cn p then 1 else 0
theorem cntP_le (q : Nat → Nat) (p m : Nat) : cntP q p m ≤ m := by
  induction m with
  | zero => exact Nat.le_refl _
  | succ m ih => unfold cntP; split <;> omega
theorem cntP_mono (q : Nat → Nat) (p : Nat) {i m : Nat} (h : i ≤ m) : cntP q p i ≤ cntP q p m := by
  induction h with
  | refl => exact Nat.le_refl _
  | step _ ih => exact Nat.le_trans ih (by show _ ≤ cntP q p _ + _; omega)
theorem cntP_lt (q : Nat → Nat) {i m : Nat} (h : i < m) : cntP q (q i) i < cntP q (q i) m := by
  have h1 := cntP_mono q (q i) (show i + 1 ≤ m from h)
  have h2 : cntP q (q i) (i + 1) = cntP q (q i) i + 1 := by simp [cntP]
  omega
theorem sm_mono (cn : Nat → Nat) {p r : Nat} (h : p ≤ r) : sm cn p ≤ sm cn r := by
  induction h with
  | refl => exact Nat.le_refl _
  | step _ ih => exact Nat.le_trans ih (by show _ ≤ sm cn _ + _; omega)
theorem sm_add (a b : Nat → Nat) (p : Nat) : sm (fun r => a r + b r) p = sm a p + sm b p := by
  induction p with
  | zero => rfl
  | succ p ih => simp only [sm, ih]; omega
theorem sm_one (x : Nat) (p : Nat) : sm (fun r => if x = r then 1 else 0) p = if x < p then 1 else 0 := by
  induction p with
  | zero => rfl
  | succ p ih =>
    simp only [sm, ih]
    by_cases h : x < p
    · rw [if_pos h, if_neg (by omega), if_pos (by omega)]
    · by_cases h2 : x = p
      · rw [if_neg h, if_pos h2, if_pos (by omega)]
      · rw [if_neg h, if_neg h2, if_neg (by omega)]
theorem sm_cnt {q : Nat → Nat} {P : Nat} (m : Nat) (h : ∀ i, i < m → q i < P) : sm (fun p => cntP q p m) P = m := by
  induction m with
  | zero =>
    have : ∀ p, sm (fun p => cntP q p 0) p = 0 := fun p => by
      induction p with
      | zero => rfl
      | succ p ih => simp only [sm, ih]; rfl
    exact this P
  | succ m ih =>
    have e : (fun p => cntP q p (m + 1)) = (fun p => cntP q p m + if q m = p then 1 else 0) := rfl
    rw [e, sm_add, ih (fun i hi => h i (by omega)), sm_one, if_pos (h m (by omega))]
/-- where card i of the deck comes to lie -/
def posP (q : Nat → Nat) (m i : Nat) : Nat := sm (fun p => cntP q p m) (q i) + cntP q (q i) i
theorem posP_lt {q : Nat → Nat} {P m i : Nat} (h : ∀ i, i < m → q i < P) (hi : i < m) : posP q m i < m := by
  have h1 := cntP_lt q hi
  have h2 := sm_mono (fun p => cntP q p m) (show q i + 1 ≤ P from h i hi)
  have h3 : sm (fun p => cntP q p m) (q i + 1) = sm (fun p => cntP q p m) (q i) + cntP q (q i) m := rfl
  have h4 := sm_cnt m h
  unfold posP
  omega
theorem sm_find (cn : Nat → Nat) {P r : Nat} (h : r < sm cn P) : ∃ p, p < P ∧ sm cn p ≤ r ∧ r < sm cn p + cn p := by
  induction P with
  | zero => exact absurd h (Nat.not_lt_zero _)
  | succ P ih =>
    by_cases h2 : r < sm cn P
    · obtain ⟨p, a, b⟩ := ih h2
      exact ⟨p, by omega, b⟩
    · exact ⟨P, by omega, by omega, h⟩
theorem cnt_find (q : Nat → Nat) (p : Nat) {m t : Nat} (h : t < cntP q p m) : ∃ i, i < m ∧ q i = p ∧ cntP q p i = t := by
  induction m with
  | zero => exact absurd h (Nat.not_lt_zero _)
  | succ m ih =>
    by_cases h2 : t < cntP q p m
    · obtain ⟨i, a, b⟩ := ih h2
      exact ⟨i, by omega, b⟩
    · unfold cntP at h
      by_cases h3 : q m = p
      · rw [if_pos h3] at h
        exact ⟨m, by omega, h3, by omega⟩
      · rw [if_neg h3] at h; omega
theorem posP_onto {q : Nat → Nat} {P m r : Nat} (h : ∀ i, i < m → q i < P) (hr : r < m) : ∃ i, i < m ∧ posP q m i = r := by
  obtain ⟨p, -, h2, h3⟩ := sm_find (fun p => cntP q p m) (show r < sm (fun p => cntP q p m) P by rw [sm_cnt m h]; exact hr)
  obtain ⟨i, a, b, d⟩ := cnt_find q p (show r - sm (fun p => cntP q p m) p < cntP q p m by omega)
  refine ⟨i, a, ?_⟩
  unfold posP
  rw [b, d]; omega
def stk (c : Nat → Nat) (pos : Nat → Nat) (T : Nat → Option Nat) : Nat → Nat → Option Nat
  | 0 => T
  | i + 1 => va_up (stk c pos T i) (pos i) (some (172 + 2 * c i))
theorem stk_at (c pos : Nat → Nat) (T : Nat → Option Nat) (m r : Nat) (h : ∃ i, i < m ∧ pos i = r) : ∃ i, i < m ∧ pos i = r ∧ stk c pos T m r = some (172 + 2 * c i) := by
  induction m with
  | zero => obtain ⟨i, a, -⟩ := h; exact absurd a (Nat.not_lt_zero _)
  | succ m ih =>
    unfold stk va_up
    by_cases e : r = pos m
    · exact ⟨m, by omega, e.symm, by rw [if_pos e]⟩
    · obtain ⟨i, a, b⟩ := h
      have hi : i ≠ m := by rintro rfl; exact e b.symm
      obtain ⟨i2, a2, b2, d2⟩ := ih ⟨i, by omega, b⟩
      exact ⟨i2, by omega, b2, by rw [if_neg e]; exact d2⟩
theorem pok_lt {s : Nat → Nat → Nat} {col : Nat} {z : Bool} {x : Nat} (h : sg (s x col)) : pk s col z x < 11 := by
  unfold pk
  cases z
  · exact dp_lt h
  · have := zn_lt (s x col)
    show zn _ < 11
    omega
theorem upd_cnt {q : Nat → Nat} {g : Nat → Int32} {i : Nat} (A : Nat → Nat) (hq : q i < 11) : upd (cpy (fun p => nI (A p + cntP q p i)) g 11) (q i) (nI (A (q i) + cntP q (q i) i + 1)) = cpy (fun p => nI (A p + cntP q p (i + 1))) g 11 := by
  funext j
  unfold upd cpy
  by_cases e : j = q i
  · subst e
    rw [if_pos rfl, if_pos hq]
    simp [cntP, Nat.add_assoc]
  · rw [if_neg e]
    by_cases h : j < 11
    · rw [if_pos h, if_pos h]
      have : ¬ q i = j := fun z => e z.symm
      simp [cntP, this]
    · rw [if_neg h, if_neg h]
theorem l_Sorter_fillPockets (G : mz_G) (X : mz_E) (n : Nat) (f : mz_H) {d a sz col K : Nat} {p7 : Value} {ps : Value} {g : Nat → Option Nat} {gp : Nat → Int32} {s : Nat → Nat → Nat} {c : Nat → Nat} {z : Bool} (h0 : f 5 = .inr (9, [.ref 6, p7, ps])) (h1 : f d = .inr (4, [.ref a, .int (nI sz)])) (h2 : f a = aQ 6 200 g) (h6 : f 6 = aI 11 gp) (hs : sz ≤ 200) (hC : Cd f K s) (hP : Ps g sz c K) (hc : col < 16) :
    ∀ m i, i + m = sz → mz_X G X 9 false b_Sorter_fillPockets 5 none (r_Sorter_fillPockets 0 0) (fun v n' f' => v = none ∧ n' = n ∧ f' = mz_u f 6 (aI 11 (cpy (fun p => nI (0 + cntP (fun i => pk s col z (c i)) p sz)) gp 11))) (fun _ _ _ => False) 11 [some (.ref 5), some (.ref d), some (.int (nI col)), some (.int (mk_b (z = true))), some (.int (nI i))] [] 0 0 n (mz_u f 6 (aI 11 (cpy (fun p => nI (0 + cntP (fun i => pk s col z (c i)) p i)) gp 11))) := by
  have hd6 : d ≠ 6 := by rintro rfl; rw [h1] at h6; cases h6
  have ha6 : a ≠ 6 := by rintro rfl; rw [h2] at h6; cases h6
  intro m
  induction m with
  | zero =>
    intro i hi
    refine mz_go [11] 12 ?_
    simp only [mz_r0, mk_lit, mk_fin, mk_cat, mk_fit, mk_nar, mk_cls, mk_ty, mk_isr, List.mem_cons, List.not_mem_nil, or_false, or_true, false_or, true_or, Nat.reduceEqDiff, Nat.reduceAdd, Nat.reduceSub, Nat.reduceLT, Nat.reduceLeDiff, ↓reduceIte, if_true, if_false, List.getElem?_cons_zero, List.getElem?_cons_succ, List.set_cons_zero, List.set_cons_succ, List.length_cons, List.length_nil, mz_s1, mz_s2, mz_cl, true_and, and_true, false_and, and_false, List.append_nil, mk_b0, mk_b1, mk_b2, mk_bn, Value.int.injEq, Option.toList_some, Option.toList_none, List.cons_append, List.nil_append, Classical.not_not, Option.some.injEq, reduceCtorEq, ne_eq, not_true_eq_false, not_false_eq_true, false_implies, true_implies, ev_36, ev_41, ev_79, ft_4_1, fn_4_1, ev_56, ft_9_0, fn_9_0, ev_67, mz_rl d_Sorter_fillPockets_11, mz_rl d_Sorter_fillPockets_13, mz_rl d_Sorter_fillPockets_14, mz_rl d_Sorter_fillPockets_17, mz_rl d_Sorter_fillPockets_20, mz_rl d_Sorter_fillPockets_21, mz_rl d_Sorter_fillPockets_24, mz_rl d_Sorter_fillPockets_25, mz_rl d_Sorter_fillPockets_27, mz_rl d_Sorter_fillPockets_46, j_Sorter_fillPockets_17, nF_9, h1, mz_u_n hd6, nI_leI (show sz < 2 ^ 31 by omega) (show i < 2 ^ 31 by omega)]
    refine ⟨fun _ => ?_, fun h => absurd (show sz ≤ i by omega) h⟩
    rw [show i = sz by omega]
  | succ m ih =>
    intro i hi
    have hlt : i < sz := by omega
    have e1 := hP i hlt
    have hC' := Cd_u hC (show 6 < 172 by decide) (aI 11 (cpy (fun p => nI (0 + cntP (fun i => pk s col z (c i)) p i)) gp 11))
    have hq : pk s col z (c i) < 11 := pok_lt ((hC _ e1.2).2.2 col hc)
    refine mz_go [27] 20 ?_
    simp only [mz_r0, mk_lit, mk_fin, mk_cat, mk_fit, mk_nar, mk_cls, mk_ty, mk_isr, List.mem_cons, List.not_mem_nil, or_false, or_true, false_or, true_or, Nat.reduceEqDiff, Nat.reduceAdd, Nat.reduceSub, Nat.reduceLT, Nat.reduceLeDiff, ↓reduceIte, if_true, if_false, List.getElem?_cons_zero, List.getElem?_cons_succ, List.set_cons_zero, List.set_cons_succ, List.length_cons, List.length_nil, mz_s1, mz_s2, mz_cl, true_and, and_true, false_and, and_false, List.append_nil, mk_b0, mk_b1, mk_b2, mk_bn, Value.int.injEq, Option.toList_some, Option.toList_none, List.cons_append, List.nil_append, Classical.not_not, Option.some.injEq, reduceCtorEq, ne_eq, not_true_eq_false, not_false_eq_true, false_implies, true_implies, ev_36, ev_41, ev_79, ft_4_1, fn_4_1, ev_56, ft_9_0, fn_9_0, ev_67, mz_rl d_Sorter_fillPockets_11, mz_rl d_Sorter_fillPockets_13, mz_rl d_Sorter_fillPockets_14, mz_rl d_Sorter_fillPockets_17, mz_rl d_Sorter_fillPockets_20, mz_rl d_Sorter_fillPockets_21, mz_rl d_Sorter_fillPockets_24, mz_rl d_Sorter_fillPockets_25, mz_rl d_Sorter_fillPockets_46, j_Sorter_fillPockets_17, nF_9, h0, h1, mz_u_n hd6, mz_u_n (show (5 : Nat) ≠ 6 by decide), nI_leI (show sz < 2 ^ 31 by omega) (show i < 2 ^ 31 by omega), show ¬ sz ≤ i by omega]
    refine mz_callV (by simp only [d_Sorter_fillPockets_27, Nat.reduceAdd]) g_9_38 rfl (fun _ _ h => h) (c_Deck_at G X n _ (d := d) (by rw [mz_u_n hd6]; exact h1) (by rw [mz_u_n ha6]; exact h2) (show i < 200 by omega) e1.1) (by rw [mz_u_n hd6]; exact h1) rfl rfl (by decide) (Nat.le_of_ble_eq_true rfl) rfl ?_; intro v_ n_ f_ h_; obtain ⟨rfl, hn_, hf_⟩ := h_; replace hn_ := hn_.symm; replace hf_ := hf_.symm; subst hn_; subst hf_
    refine mz_go [32] 6 ?_
    simp only [mz_r0, mk_lit, mk_fin, mk_cat, mk_fit, mk_nar, mk_cls, mk_ty, mk_isr, List.mem_cons, List.not_mem_nil, or_false, or_true, false_or, true_or, Nat.reduceEqDiff, Nat.reduceAdd, Nat.reduceSub, Nat.reduceLT, Nat.reduceLeDiff, ↓reduceIte, if_true, if_false, List.getElem?_cons_zero, List.getElem?_cons_succ, List.set_cons_zero, List.set_cons_succ, List.length_cons, List.length_nil, mz_s1, mz_s2, mz_cl, true_and, and_true, false_and, and_false, List.append_nil, mk_b0, mk_b1, mk_b2, mk_bn, Value.int.injEq, Option.toList_some, Option.toList_none, List.cons_append, List.nil_append, Classical.not_not, Option.some.injEq, reduceCtorEq, ne_eq, not_true_eq_false, not_false_eq_true, false_implies, true_implies, ev_37, mz_rl d_Sorter_fillPockets_30, mz_rl d_Sorter_fillPockets_31, nF_9]
    refine mz_callS (by simp only [d_Sorter_fillPockets_32, Nat.reduceAdd]) g_9_42 rfl (fun _ _ h => h) (c_Sorter_pocketOf G X n _ hC' e1.2 hc z) (by decide) (Nat.le_of_ble_eq_true rfl) rfl ?_; intro v_ n_ f_ h_; obtain ⟨rfl, hn_, hf_⟩ := h_; replace hn_ := hn_.symm; replace hf_ := hf_.symm; subst hn_; subst hf_
    refine mz_go [11] 20 ?_
    simp only [mz_r0, mk_lit, mk_fin, mk_cat, mk_fit, mk_nar, mk_cls, mk_ty, mk_isr, List.mem_cons, List.not_mem_nil, or_false, or_true, false_or, true_or, Nat.reduceEqDiff, Nat.reduceAdd, Nat.reduceSub, Nat.reduceLT, Nat.reduceLeDiff, ↓reduceIte, if_true, if_false, List.getElem?_cons_zero, List.getElem?_cons_succ, List.set_cons_zero, List.set_cons_succ, List.length_cons, List.length_nil, mz_s1, mz_s2, mz_cl, true_and, and_true, false_and, and_false, List.append_nil, mk_b0, mk_b1, mk_b2, mk_bn, Value.int.injEq, Option.toList_some, Option.toList_none, List.cons_append, List.nil_append, Classical.not_not, Option.some.injEq, reduceCtorEq, ne_eq, not_true_eq_false, not_false_eq_true, false_implies, true_implies, ev_35, ev_68, ev_0, ev_5, ev_72, ev_48, ev_61, mz_rl d_Sorter_fillPockets_35, mz_rl d_Sorter_fillPockets_36, mz_rl d_Sorter_fillPockets_37, mz_rl d_Sorter_fillPockets_38, mz_rl d_Sorter_fillPockets_39, mz_rl d_Sorter_fillPockets_40, mz_rl d_Sorter_fillPockets_43, j_Sorter_fillPockets_43, nF_9, mz_u_s, vp_in_nI hq (show 11 < 2 ^ 31 by decide), nI_clamp (show pk s col z (c i) < 2 ^ 31 by omega), nI_add, mz_uu, cpy_lt hq]
    rw [upd_cnt (q := fun i => pk s col z (c i)) (fun _ => 0) hq]
    exact ih (i + 1) (by omega)
theorem c_Sorter_fillPockets (G : mz_G) (X : mz_E) (n : Nat) (f : mz_H) {d a sz col K : Nat} {p7 : Value} {ps : Value} {g : Nat → Option Nat} {gp : Nat → Int32} {s : Nat → Nat → Nat} {c : Nat → Nat} (z : Bool) (h0 : f 5 = .inr (9, [.ref 6, p7, ps])) (h1 : f d = .inr (4, [.ref a, .int (nI sz)])) (h2 : f a = aQ 6 200 g) (h6 : f 6 = aI 11 gp) (hs : sz ≤ 200) (hC : Cd f K s) (hP : Ps g sz c K) (hc : col < 16) :
    mz_Ct G X y_Sorter_fillPockets b_Sorter_fillPockets 5 none (r_Sorter_fillPockets 0 0) [.ref 5, .ref d, .int (nI col), .int (mk_b (z = true))] n f (fun v n' f' => v = none ∧ n' = n ∧ f' = mz_u f 6 (aI 11 (cpy (fun p => nI (0 + cntP (fun i => pk s col z (c i)) p sz)) gp 11))) := by
  refine mk_Ct 9 false [some (.ref 5), some (.ref d), some (.int (nI col)), some (.int (mk_b (z = true))), none] (by decide) rfl (by decide) (Nat.le_of_ble_eq_true rfl) rfl ?_
  refine mz_go [5] 6 ?_
  simp only [mz_r0, mk_lit, mk_fin, mk_cat, mk_fit, mk_nar, mk_cls, mk_ty, mk_isr, List.mem_cons, List.not_mem_nil, or_false, or_true, false_or, true_or, Nat.reduceEqDiff, Nat.reduceAdd, Nat.reduceSub, Nat.reduceLT, Nat.reduceLeDiff, ↓reduceIte, if_true, if_false, List.getElem?_cons_zero, List.getElem?_cons_succ, List.set_cons_zero, List.set_cons_succ, List.length_cons, List.length_nil, mz_s1, mz_s2, mz_cl, true_and, and_true, false_and, and_false, List.append_nil, mk_b0, mk_b1, mk_b2, mk_bn, Value.int.injEq, Option.toList_some, Option.toList_none, List.cons_append, List.nil_append, Classical.not_not, Option.some.injEq, reduceCtorEq, ne_eq, not_true_eq_false, not_false_eq_true, false_implies, true_implies, ev_41, ev_79, ft_9_0, fn_9_0, ev_0, mz_rl d_Sorter_fillPockets_0, mz_rl d_Sorter_fillPockets_1, mz_rl d_Sorter_fillPockets_4, nF_9, h0]
  refine mz_callS (by simp only [d_Sorter_fillPockets_5, Nat.reduceAdd]) g_9_61 rfl (fun _ _ h => h) (c_Arrays_fill G X n f (nI 0) h6 (by decide)) (by decide) (Nat.le_of_ble_eq_true rfl) rfl ?_; intro v_ n_ f_ h_; obtain ⟨rfl, hn_, hf_⟩ := h_; replace hn_ := hn_.symm; replace hf_ := hf_.symm; subst hn_; subst hf_
  refine mz_go [11] 6 ?_
  simp only [mz_r0, mk_lit, mk_fin, mk_cat, mk_fit, mk_nar, mk_cls, mk_ty, mk_isr, List.mem_cons, List.not_mem_nil, or_false, or_true, false_or, true_or, Nat.reduceEqDiff, Nat.reduceAdd, Nat.reduceSub, Nat.reduceLT, Nat.reduceLeDiff, ↓reduceIte, if_true, if_false, List.getElem?_cons_zero, List.getElem?_cons_succ, List.set_cons_zero, List.set_cons_succ, List.length_cons, List.length_nil, mz_s1, mz_s2, mz_cl, true_and, and_true, false_and, and_false, List.append_nil, mk_b0, mk_b1, mk_b2, mk_bn, Value.int.injEq, Option.toList_some, Option.toList_none, List.cons_append, List.nil_append, Classical.not_not, Option.some.injEq, reduceCtorEq, ne_eq, not_true_eq_false, not_false_eq_true, false_implies, true_implies, ev_0, ev_42, mz_rl d_Sorter_fillPockets_8, mz_rl d_Sorter_fillPockets_9, nF_9]
  exact l_Sorter_fillPockets G X n f h0 h1 h2 h6 hs hC hP hc sz 0 (by omega)
theorem cpy_cp (A B : Nat → Int32) (g : Nat → Int32) {p : Nat} (hp : p < 11) : upd (cpy (cpy A B p) g 11) p (A p) = cpy (cpy A B (p + 1)) g 11 := by
  funext j
  unfold upd cpy
  by_cases e : j = p
  · subst e
    rw [if_pos rfl, if_pos hp, if_pos (by omega)]
  · rw [if_neg e]
    by_cases h : j < 11
    · rw [if_pos h, if_pos h]
      by_cases h2 : j < p
      · rw [if_pos h2, if_pos (by omega)]
      · rw [if_neg h2, if_neg (by omega)]
    · rw [if_neg h, if_neg h]
theorem l_Sorter_stackPockets (G : mz_G) (X : mz_E) (n : Nat) (f : mz_H) {p7 ps : Value} {gp : Nat → Int32} {cn : Nat → Nat} (h0 : f 5 = .inr (9, [.ref 6, p7, ps])) (hcn : ∀ p, p < 11 → cn p < 2 ^ 31) (w4 : Option Value) :
    ∀ m p w4, p + m = 11 → mz_X G X 9 false b_Sorter_stackPockets 5 (some .int) (r_Sorter_stackPockets 0 0) (fun v n' f' => v = some (.int (nI (us cn 11))) ∧ n' = n ∧ f' = mz_u f 6 (aI 11 (cpy (cpy (fun r => nI (sm cn r)) (fun r => nI (cn r)) 11) gp 11))) (fun _ _ _ => False) 6 [some (.ref 5), some (.int (nI (us cn p))), some (.int (nI (sm cn p))), some (.int (nI p)), w4] [] 0 0 n (mz_u f 6 (aI 11 (cpy (cpy (fun r => nI (sm cn r)) (fun r => nI (cn r)) p) gp 11))) := by
  intro m
  induction m with
  | zero =>
    intro p w4 hp
    have : p = 11 := by omega
    subst this
    refine mz_go [6] 12 ?_
    simp only [mz_r0, mk_lit, mk_fin, mk_cat, mk_fit, mk_nar, mk_cls, mk_ty, mk_isr, List.mem_cons, List.not_mem_nil, or_false, or_true, false_or, true_or, Nat.reduceEqDiff, Nat.reduceAdd, Nat.reduceSub, Nat.reduceLT, Nat.reduceLeDiff, ↓reduceIte, if_true, if_false, List.getElem?_cons_zero, List.getElem?_cons_succ, List.set_cons_zero, List.set_cons_succ, List.length_cons, List.length_nil, mz_s1, mz_s2, mz_cl, true_and, and_true, false_and, and_false, List.append_nil, mk_b0, mk_b1, mk_b2, mk_bn, Value.int.injEq, Option.toList_some, Option.toList_none, List.cons_append, List.nil_append, Classical.not_not, Option.some.injEq, reduceCtorEq, ne_eq, not_true_eq_false, not_false_eq_true, false_implies, true_implies, ev_37, ev_1, ev_56, ev_41, ev_79, ft_9_0, fn_9_0, ev_68, ev_42, ev_36, ev_59, ev_48, ev_72, ev_5, ev_43, ev_61, ev_64, mz_rl d_Sorter_stackPockets_6, mz_rl d_Sorter_stackPockets_7, mz_rl d_Sorter_stackPockets_9, mz_rl d_Sorter_stackPockets_12, mz_rl d_Sorter_stackPockets_13, mz_rl d_Sorter_stackPockets_16, mz_rl d_Sorter_stackPockets_17, mz_rl d_Sorter_stackPockets_18, mz_rl d_Sorter_stackPockets_20, mz_rl d_Sorter_stackPockets_22, mz_rl d_Sorter_stackPockets_25, mz_rl d_Sorter_stackPockets_28, mz_rl d_Sorter_stackPockets_29, mz_rl d_Sorter_stackPockets_32, mz_rl d_Sorter_stackPockets_33, mz_rl d_Sorter_stackPockets_34, mz_rl d_Sorter_stackPockets_35, mz_rl d_Sorter_stackPockets_36, mz_rl d_Sorter_stackPockets_38, mz_rl d_Sorter_stackPockets_39, mz_rl d_Sorter_stackPockets_40, mz_rl d_Sorter_stackPockets_43, mz_rl d_Sorter_stackPockets_46, mz_rl d_Sorter_stackPockets_47, j_Sorter_stackPockets_9, j_Sorter_stackPockets_22, j_Sorter_stackPockets_43, nF_9, mk_le, mk_ti, Int.le_refl]
  | succ m ih =>
    intro p w4 hp
    have hp11 : p < 11 := by omega
    have hk := hcn p hp11
    have e1 : cpy (fun r => nI (sm cn r)) (fun r => nI (cn r)) p p = nI (cn p) := cpy_ge (Nat.le_refl p)
    refine mz_go [6] 30 ?_
    simp only [mz_r0, mk_lit, mk_fin, mk_cat, mk_fit, mk_nar, mk_cls, mk_ty, mk_isr, List.mem_cons, List.not_mem_nil, or_false, or_true, false_or, true_or, Nat.reduceEqDiff, Nat.reduceAdd, Nat.reduceSub, Nat.reduceLT, Nat.reduceLeDiff, ↓reduceIte, if_true, if_false, List.getElem?_cons_zero, List.getElem?_cons_succ, List.set_cons_zero, List.set_cons_succ, List.length_cons, List.length_nil, mz_s1, mz_s2, mz_cl, true_and, and_true, false_and, and_false, List.append_nil, mk_b0, mk_b1, mk_b2, mk_bn, Value.int.injEq, Option.toList_some, Option.toList_none, List.cons_append, List.nil_append, Classical.not_not, Option.some.injEq, reduceCtorEq, ne_eq, not_true_eq_false, not_false_eq_true, false_implies, true_implies, ev_37, ev_1, ev_56, ev_41, ev_79, ft_9_0, fn_9_0, ev_68, ev_42, ev_36, ev_59, ev_48, ev_72, ev_5, ev_43, ev_61, ev_64, mz_rl d_Sorter_stackPockets_6, mz_rl d_Sorter_stackPockets_7, mz_rl d_Sorter_stackPockets_9, mz_rl d_Sorter_stackPockets_12, mz_rl d_Sorter_stackPockets_13, mz_rl d_Sorter_stackPockets_16, mz_rl d_Sorter_stackPockets_17, mz_rl d_Sorter_stackPockets_18, mz_rl d_Sorter_stackPockets_20, mz_rl d_Sorter_stackPockets_22, mz_rl d_Sorter_stackPockets_25, mz_rl d_Sorter_stackPockets_28, mz_rl d_Sorter_stackPockets_29, mz_rl d_Sorter_stackPockets_32, mz_rl d_Sorter_stackPockets_33, mz_rl d_Sorter_stackPockets_34, mz_rl d_Sorter_stackPockets_35, mz_rl d_Sorter_stackPockets_36, mz_rl d_Sorter_stackPockets_38, mz_rl d_Sorter_stackPockets_39, mz_rl d_Sorter_stackPockets_40, mz_rl d_Sorter_stackPockets_43, mz_rl d_Sorter_stackPockets_46, mz_rl d_Sorter_stackPockets_47, j_Sorter_stackPockets_9, j_Sorter_stackPockets_22, j_Sorter_stackPockets_43, nF_9, h0, mz_u_s, mz_u_n (show (5 : Nat) ≠ 6 by decide), nI_leI (show 11 < 2 ^ 31 by decide) (show p < 2 ^ 31 by omega), show ¬ 11 ≤ p by omega, vp_in_nI hp11 (show 11 < 2 ^ 31 by decide), nI_clamp (show p < 2 ^ 31 by omega), cpy_lt hp11, e1, nI_add, mz_uu]
    have e2 := cpy_cp (fun r => nI (sm cn r)) (fun r => nI (cn r)) gp hp11
    refine ⟨fun h => ?_, fun h => ?_⟩
    · rw [e2]
      have e3 : us cn p = us cn (p + 1) := by
        show _ = us cn p + _
        rw [if_neg]; rfl; rw [mk_le, mk_nti hk] at h; simp at h; omega
      have := ih (p + 1) (some (.int (nI (cn p)))) (by omega)
      rw [← e3] at this
      exact this
    · rw [e2]
      have e3 : us cn p + 1 = us cn (p + 1) := by
        show _ = us cn p + _
        rw [if_pos]; rw [mk_le, mk_nti hk] at h; simp at h; omega
      have := ih (p + 1) (some (.int (nI (cn p)))) (by omega)
      rw [← e3] at this
      exact this
end
section
theorem c_Sorter_stackPockets (G : mz_G) (X : mz_E) (n : Nat) (f : mz_H) {p7 ps : Value} {gp : Nat → Int32} {cn : Nat → Nat} (h0 : f 5 = .inr (9, [.ref 6, p7, ps])) (h6 : f 6 = aI 11 (cpy (fun r => nI (cn r)) gp 11)) (hcn : ∀ p, p < 11 → cn p < 2 ^ 31) :
    mz_Ct G X y_Sorter_stackPockets b_Sorter_stackPockets 5 (some .int) (r_Sorter_stackPockets 0 0) [.ref 5] n f (fun v n' f' => v = some (.int (nI (us cn 11))) ∧ n' = n ∧ f' = mz_u f 6 (aI 11 (cpy (fun r => nI (sm cn r)) gp 11))) := by
  refine mk_Ct 9 false [some (.ref 5), none, none, none, none] (by decide) rfl (by decide) (Nat.le_of_ble_eq_true rfl) rfl ?_
  refine mz_go [6] 12 ?_
  simp only [mz_r0, mk_lit, mk_fin, mk_cat, mk_fit, mk_nar, mk_cls, mk_ty, mk_isr, List.mem_cons, List.not_mem_nil, or_false, or_true, false_or, true_or, Nat.reduceEqDiff, Nat.reduceAdd, Nat.reduceSub, Nat.reduceLT, Nat.reduceLeDiff, ↓reduceIte, if_true, if_false, List.getElem?_cons_zero, List.getElem?_cons_succ, List.set_cons_zero, List.set_cons_succ, List.length_cons, List.length_nil, mz_s1, mz_s2, mz_cl, true_and, and_true, false_and, and_false, List.append_nil, mk_b0, mk_b1, mk_b2, mk_bn, Value.int.injEq, Option.toList_some, Option.toList_none, List.cons_append, List.nil_append, Classical.not_not, Option.some.injEq, reduceCtorEq, ne_eq, not_true_eq_false, not_false_eq_true, false_implies, true_implies, ev_0, ev_43, mz_rl d_Sorter_stackPockets_0, mz_rl d_Sorter_stackPockets_1, mz_rl d_Sorter_stackPockets_2, mz_rl d_Sorter_stackPockets_3, mz_rl d_Sorter_stackPockets_4, mz_rl d_Sorter_stackPockets_5, nF_9]
  have e : cpy (cpy (fun r => nI (sm cn r)) (fun r => nI (cn r)) 11) gp 11 = cpy (fun r => nI (sm cn r)) gp 11 := by
    funext j; unfold cpy; by_cases h : j < 11 <;> simp [h]
  have := l_Sorter_stackPockets G X n f (gp := gp) h0 hcn none 11 0 none (by omega)
  rw [e, cpy_0, mz_ui h6] at this
  exact this
/-- the pockets' cards, one pocket behind the other -/
theorem l_Sorter_passOnce1 (G : mz_G) (X : mz_E) (n : Nat) (f : mz_H) {d a sz col K : Nat} {ps : Value} {g T : Nat → Option Nat} {gp : Nat → Int32} {s : Nat → Nat → Nat} {c q : Nat → Nat} {z : Bool} {us0 : Int32} (post : Option Value → Nat → mz_H → Prop) (h0 : f 5 = .inr (9, [.ref 6, .ref 7, ps])) (h1 : f d = .inr (4, [.ref a, .int (nI sz)])) (h2 : f a = aQ 6 200 g) (hd : d < 172) (ha : a < 172) (ha6 : a ≠ 6) (ha7 : a ≠ 7) (hd6 : d ≠ 6) (hd7 : d ≠ 7) (hs : sz ≤ 200) (hC : Cd f K s) (hP : Ps g sz c K) (hc : col < 16) (hq : q = fun i => pk s col z (c i))
    (hend : ∀ w6, mz_X G X 9 false b_Sorter_passOnce 7 (some .int) (r_Sorter_passOnce 0 0) post (fun _ _ _ => False) 83 [some (.ref 5), some (.ref d), some (.int (nI col)), some (.int (mk_b (z = true))), some (.int us0), some (.int (nI sz)), w6] [] 0 0 n (mz_u (mz_u f 6 (aI 11 (cpy (fun p => nI (sm (fun r => cntP q r sz) p + cntP q p sz)) gp 11))) 7 (aQ 6 200 (stk c (posP q sz) T sz)))) :
    ∀ m i w6, i + m = sz → mz_X G X 9 false b_Sorter_passOnce 7 (some .int) (r_Sorter_passOnce 0 0) post (fun _ _ _ => False) 26 [some (.ref 5), some (.ref d), some (.int (nI col)), some (.int (mk_b (z = true))), some (.int us0), some (.int (nI i)), w6] [] 0 0 n (mz_u (mz_u f 6 (aI 11 (cpy (fun p => nI (sm (fun r => cntP q r sz) p + cntP q p i)) gp 11))) 7 (aQ 6 200 (stk c (posP q sz) T i))) := by
  intro m
  induction m with
  | zero =>
    intro i w6 hi
    have : i = sz := by omega
    subst this
    refine mz_go [26, 83] 12 ?_
    simp only [mz_r0, mk_lit, mk_fin, mk_cat, mk_fit, mk_nar, mk_cls, mk_ty, mk_isr, List.mem_cons, List.not_mem_nil, or_false, or_true, false_or, true_or, Nat.reduceEqDiff, Nat.reduceAdd, Nat.reduceSub, Nat.reduceLT, Nat.reduceLeDiff, ↓reduceIte, if_true, if_false, List.getElem?_cons_zero, List.getElem?_cons_succ, List.set_cons_zero, List.set_cons_succ, List.length_cons, List.length_nil, mz_s1, mz_s2, mz_cl, true_and, and_true, false_and, and_false, List.append_nil, mk_b0, mk_b1, mk_b2, mk_bn, Value.int.injEq, Option.toList_some, Option.toList_none, List.cons_append, List.nil_append, Classical.not_not, Option.some.injEq, reduceCtorEq, ne_eq, not_true_eq_false, not_false_eq_true, false_implies, true_implies, ev_36, ev_41, ev_79, ft_4_1, fn_4_1, ev_56, mz_rl d_Sorter_passOnce_26, mz_rl d_Sorter_passOnce_28, mz_rl d_Sorter_passOnce_29, mz_rl d_Sorter_passOnce_32, mz_rl d_Sorter_passOnce_35, mz_rl d_Sorter_passOnce_36, mz_rl d_Sorter_passOnce_38, j_Sorter_passOnce_32, nF_9, h1, mz_u_n hd6, mz_u_n hd7, nI_leI (show i < 2 ^ 31 by omega) (show i < 2 ^ 31 by omega), Nat.le_refl]
    exact hend w6
  | succ m ih =>
    intro i w6 hi
    have hlt : i < sz := by omega
    have e1 := hP i hlt
    generalize hF : mz_u (mz_u f 6 (aI 11 (cpy (fun p => nI (sm (fun r => cntP q r sz) p + cntP q p i)) gp 11))) 7 (aQ 6 200 (stk c (posP q sz) T i)) = F
    have f5 : F 5 = .inr (9, [.ref 6, .ref 7, ps]) := by rw [← hF, mz_u_n (by decide), mz_u_n (by decide)]; exact h0
    have f6 : F 6 = aI 11 (cpy (fun p => nI (sm (fun r => cntP q r sz) p + cntP q p i)) gp 11) := by rw [← hF, mz_u_n (by decide), mz_u_s]
    have f7 : F 7 = aQ 6 200 (stk c (posP q sz) T i) := by rw [← hF, mz_u_s]
    have fd : F d = .inr (4, [.ref a, .int (nI sz)]) := by rw [← hF, mz_u_n hd7, mz_u_n hd6]; exact h1
    have fa : F a = aQ 6 200 g := by rw [← hF, mz_u_n ha7, mz_u_n ha6]; exact h2
    have hC' : Cd F K s := by rw [← hF]; exact Cd_u (Cd_u hC (by decide) _) (by decide) _
    have hqi : pk s col z (c i) = q i := by rw [hq]
    have hqlt : ∀ j, j < sz → q j < 11 := fun j hj => by rw [hq]; exact pok_lt ((hC _ (hP j hj).2).2.2 col hc)
    have hq11 : q i < 11 := hqlt i hlt
    have hpos : posP q sz i < sz := posP_lt hqlt hlt
    have hpe : sm (fun r => cntP q r sz) (q i) + cntP q (q i) i = posP q sz i := rfl
    have hcard := hC' _ e1.2
    refine mz_go [38] 20 ?_
    simp only [mz_r0, mk_lit, mk_fin, mk_cat, mk_fit, mk_nar, mk_cls, mk_ty, mk_isr, List.mem_cons, List.not_mem_nil, or_false, or_true, false_or, true_or, Nat.reduceEqDiff, Nat.reduceAdd, Nat.reduceSub, Nat.reduceLT, Nat.reduceLeDiff, ↓reduceIte, if_true, if_false, List.getElem?_cons_zero, List.getElem?_cons_succ, List.set_cons_zero, List.set_cons_succ, List.length_cons, List.length_nil, mz_s1, mz_s2, mz_cl, true_and, and_true, false_and, and_false, List.append_nil, mk_b0, mk_b1, mk_b2, mk_bn, Value.int.injEq, Option.toList_some, Option.toList_none, List.cons_append, List.nil_append, Classical.not_not, Option.some.injEq, reduceCtorEq, ne_eq, not_true_eq_false, not_false_eq_true, false_implies, true_implies, ev_36, ev_41, ev_79, ft_4_1, fn_4_1, ev_56, ev_0, ev_42, ft_4_0, fn_4_0, ft_9_1, fn_9_1, ev_76, ev_77, ev_48, ev_61, ev_64, mz_rl d_Sorter_passOnce_26, mz_rl d_Sorter_passOnce_28, mz_rl d_Sorter_passOnce_29, mz_rl d_Sorter_passOnce_32, mz_rl d_Sorter_passOnce_35, mz_rl d_Sorter_passOnce_36, mz_rl d_Sorter_passOnce_83, mz_rl d_Sorter_passOnce_84, mz_rl d_Sorter_passOnce_86, mz_rl d_Sorter_passOnce_88, mz_rl d_Sorter_passOnce_89, mz_rl d_Sorter_passOnce_92, mz_rl d_Sorter_passOnce_95, mz_rl d_Sorter_passOnce_96, mz_rl d_Sorter_passOnce_99, mz_rl d_Sorter_passOnce_101, mz_rl d_Sorter_passOnce_102, mz_rl d_Sorter_passOnce_105, mz_rl d_Sorter_passOnce_107, mz_rl d_Sorter_passOnce_108, mz_rl d_Sorter_passOnce_109, mz_rl d_Sorter_passOnce_112, mz_rl d_Sorter_passOnce_115, mz_rl d_Sorter_passOnce_117, j_Sorter_passOnce_32, j_Sorter_passOnce_92, j_Sorter_passOnce_112, nF_9, fd, nI_leI (show sz < 2 ^ 31 by omega) (show i < 2 ^ 31 by omega), show ¬ sz ≤ i by omega]
    refine mz_callV (by simp only [d_Sorter_passOnce_38, Nat.reduceAdd]) g_9_38 rfl (fun _ _ h => h) (c_Deck_at G X n F fd fa (show i < 200 by omega) e1.1) fd rfl rfl (by decide) (Nat.le_of_ble_eq_true rfl) rfl ?_; intro v_ n_ f_ h_; obtain ⟨rfl, hn_, hf_⟩ := h_; replace hn_ := hn_.symm; replace hf_ := hf_.symm; subst hn_; subst hf_
    refine mz_go [43] 6 ?_
    simp only [mz_r0, mk_lit, mk_fin, mk_cat, mk_fit, mk_nar, mk_cls, mk_ty, mk_isr, List.mem_cons, List.not_mem_nil, or_false, or_true, false_or, true_or, Nat.reduceEqDiff, Nat.reduceAdd, Nat.reduceSub, Nat.reduceLT, Nat.reduceLeDiff, ↓reduceIte, if_true, if_false, List.getElem?_cons_zero, List.getElem?_cons_succ, List.set_cons_zero, List.set_cons_succ, List.length_cons, List.length_nil, mz_s1, mz_s2, mz_cl, true_and, and_true, false_and, and_false, List.append_nil, mk_b0, mk_b1, mk_b2, mk_bn, Value.int.injEq, Option.toList_some, Option.toList_none, List.cons_append, List.nil_append, Classical.not_not, Option.some.injEq, reduceCtorEq, ne_eq, not_true_eq_false, not_false_eq_true, false_implies, true_implies, ev_37, mz_rl d_Sorter_passOnce_41, mz_rl d_Sorter_passOnce_42, nF_9]
    refine mz_callS (by simp only [d_Sorter_passOnce_43, Nat.reduceAdd]) g_9_42 rfl (fun _ _ h => h) (c_Sorter_pocketOf G X n F hC' e1.2 hc z) (by decide) (Nat.le_of_ble_eq_true rfl) rfl ?_; intro v_ n_ f_ h_; obtain ⟨rfl, hn_, hf_⟩ := h_; replace hn_ := hn_.symm; replace hf_ := hf_.symm; subst hn_; subst hf_
    refine mz_go [62] 20 ?_
    simp only [mz_r0, mk_lit, mk_fin, mk_cat, mk_fit, mk_nar, mk_cls, mk_ty, mk_isr, List.mem_cons, List.not_mem_nil, or_false, or_true, false_or, true_or, Nat.reduceEqDiff, Nat.reduceAdd, Nat.reduceSub, Nat.reduceLT, Nat.reduceLeDiff, ↓reduceIte, if_true, if_false, List.getElem?_cons_zero, List.getElem?_cons_succ, List.set_cons_zero, List.set_cons_succ, List.length_cons, List.length_nil, mz_s1, mz_s2, mz_cl, true_and, and_true, false_and, and_false, List.append_nil, mk_b0, mk_b1, mk_b2, mk_bn, Value.int.injEq, Option.toList_some, Option.toList_none, List.cons_append, List.nil_append, Classical.not_not, Option.some.injEq, reduceCtorEq, ne_eq, not_true_eq_false, not_false_eq_true, false_implies, true_implies, ev_42, ev_41, ev_79, ft_9_1, fn_9_1, ft_9_0, fn_9_0, ev_36, ev_68, mz_rl d_Sorter_passOnce_46, mz_rl d_Sorter_passOnce_48, mz_rl d_Sorter_passOnce_49, mz_rl d_Sorter_passOnce_52, mz_rl d_Sorter_passOnce_53, mz_rl d_Sorter_passOnce_56, mz_rl d_Sorter_passOnce_58, mz_rl d_Sorter_passOnce_59, mz_rl d_Sorter_passOnce_60, nF_9, f5, f6, hqi, vp_in_nI hq11 (show 11 < 2 ^ 31 by decide), nI_clamp (show q i < 2 ^ 31 by omega), cpy_lt hq11, hpe]
    refine mz_callV (by simp only [d_Sorter_passOnce_62, Nat.reduceAdd]) g_9_38 rfl (fun _ _ h => h) (c_Deck_at G X n F fd fa (show i < 200 by omega) e1.1) fd rfl rfl (by decide) (Nat.le_of_ble_eq_true rfl) rfl ?_; intro v_ n_ f_ h_; obtain ⟨rfl, hn_, hf_⟩ := h_; replace hn_ := hn_.symm; replace hf_ := hf_.symm; subst hn_; subst hf_
    refine mz_go [26] 20 ?_
    simp only [mz_r0, mk_lit, mk_fin, mk_cat, mk_fit, mk_nar, mk_cls, mk_ty, mk_isr, List.mem_cons, List.not_mem_nil, or_false, or_true, false_or, true_or, Nat.reduceEqDiff, Nat.reduceAdd, Nat.reduceSub, Nat.reduceLT, Nat.reduceLeDiff, ↓reduceIte, if_true, if_false, List.getElem?_cons_zero, List.getElem?_cons_succ, List.set_cons_zero, List.set_cons_succ, List.length_cons, List.length_nil, mz_s1, mz_s2, mz_cl, true_and, and_true, false_and, and_false, List.append_nil, mk_b0, mk_b1, mk_b2, mk_bn, Value.int.injEq, Option.toList_some, Option.toList_none, List.cons_append, List.nil_append, Classical.not_not, Option.some.injEq, reduceCtorEq, ne_eq, not_true_eq_false, not_false_eq_true, false_implies, true_implies, ev_77, ev_41, ev_79, ft_9_0, fn_9_0, ev_36, ev_35, ev_68, ev_0, ev_5, ev_72, ev_48, ev_61, mz_rl d_Sorter_passOnce_65, mz_rl d_Sorter_passOnce_66, mz_rl d_Sorter_passOnce_67, mz_rl d_Sorter_passOnce_70, mz_rl d_Sorter_passOnce_72, mz_rl d_Sorter_passOnce_73, mz_rl d_Sorter_passOnce_74, mz_rl d_Sorter_passOnce_75, mz_rl d_Sorter_passOnce_76, mz_rl d_Sorter_passOnce_77, mz_rl d_Sorter_passOnce_80, j_Sorter_passOnce_80, nF_9, f5, f6, f7, hcard.1, mz_u_n (show (5 : Nat) ≠ 7 by decide), mz_u_n (show (6 : Nat) ≠ 7 by decide), vp_in_nI hq11 (show 11 < 2 ^ 31 by decide), nI_clamp (show q i < 2 ^ 31 by omega), cpy_lt hq11, hpe, vp_in_nI (show posP q sz i < 200 by omega) (show 200 < 2 ^ 31 by decide), nI_clamp (show posP q sz i < 2 ^ 31 by omega), nI_add]
    have eU := upd_cnt (q := q) (g := gp) (i := i) (sm (fun r => cntP q r sz)) hq11
    rw [hpe] at eU
    rw [eU, ← hF, mz_uu, mz_uc _ (show (7 : Nat) ≠ 6 by decide), mz_uu]
    exact ih (i + 1) _ (by omega)
theorem l_Sorter_passOnce2 (G : mz_G) (X : mz_E) (n : Nat) (f : mz_H) {d a sz : Nat} {ps : Value} {g T : Nat → Option Nat} {l2 l3 w6 : Option Value} {us0 : Int32} (h0 : f 5 = .inr (9, [.ref 6, .ref 7, ps])) (h1 : f d = .inr (4, [.ref a, .int (nI sz)])) (h2 : f a = aQ 6 200 g) (h7 : f 7 = aQ 6 200 T) (ha7 : a ≠ 7) (hs : sz ≤ 200) (hT : ∀ j, j < sz → ∃ c fs, T j = some c ∧ f c = .inr (2, fs)) :
    ∀ m i, i + m = sz → mz_X G X 9 false b_Sorter_passOnce 7 (some .int) (r_Sorter_passOnce 0 0) (fun v n' f' => v = some (.int us0) ∧ n' = n ∧ f' = mz_u f a (aQ 6 200 (cpy T g sz))) (fun _ _ _ => False) 86 [some (.ref 5), some (.ref d), l2, l3, some (.int us0), some (.int (nI i)), w6] [] 0 0 n (mz_u f a (aQ 6 200 (cpy T g i))) := by
  have hda : d ≠ a := by rintro rfl; rw [h1] at h2; cases h2
  have h5a : 5 ≠ a := by rintro rfl; rw [h0] at h2; cases h2
  intro m
  induction m with
  | zero =>
    intro i hi
    have : i = sz := by omega
    subst this
    refine mz_go [86] 12 ?_
    simp only [mz_r0, mk_lit, mk_fin, mk_cat, mk_fit, mk_nar, mk_cls, mk_ty, mk_isr, List.mem_cons, List.not_mem_nil, or_false, or_true, false_or, true_or, Nat.reduceEqDiff, Nat.reduceAdd, Nat.reduceSub, Nat.reduceLT, Nat.reduceLeDiff, ↓reduceIte, if_true, if_false, List.getElem?_cons_zero, List.getElem?_cons_succ, List.set_cons_zero, List.set_cons_succ, List.length_cons, List.length_nil, mz_s1, mz_s2, mz_cl, true_and, and_true, false_and, and_false, List.append_nil, mk_b0, mk_b1, mk_b2, mk_bn, Value.int.injEq, Option.toList_some, Option.toList_none, List.cons_append, List.nil_append, Classical.not_not, Option.some.injEq, reduceCtorEq, ne_eq, not_true_eq_false, not_false_eq_true, false_implies, true_implies, ev_36, ev_41, ev_79, ft_4_1, fn_4_1, ev_56, ft_4_0, fn_4_0, ft_9_1, fn_9_1, ev_76, ev_77, ev_48, ev_61, ev_64, mz_rl d_Sorter_passOnce_86, mz_rl d_Sorter_passOnce_88, mz_rl d_Sorter_passOnce_89, mz_rl d_Sorter_passOnce_92, mz_rl d_Sorter_passOnce_95, mz_rl d_Sorter_passOnce_96, mz_rl d_Sorter_passOnce_99, mz_rl d_Sorter_passOnce_101, mz_rl d_Sorter_passOnce_102, mz_rl d_Sorter_passOnce_105, mz_rl d_Sorter_passOnce_107, mz_rl d_Sorter_passOnce_108, mz_rl d_Sorter_passOnce_109, mz_rl d_Sorter_passOnce_112, mz_rl d_Sorter_passOnce_115, mz_rl d_Sorter_passOnce_117, j_Sorter_passOnce_92, j_Sorter_passOnce_112, nF_9, h1, mz_u_n hda, nI_leI (show i < 2 ^ 31 by omega) (show i < 2 ^ 31 by omega), Nat.le_refl]
  | succ m ih =>
    intro i hi
    obtain ⟨c, fs, e1, e2⟩ := hT i (by omega)
    have hca : c ≠ a := by rintro rfl; rw [e2] at h2; cases h2
    refine mz_go [86] 20 ?_
    simp only [mz_r0, mk_lit, mk_fin, mk_cat, mk_fit, mk_nar, mk_cls, mk_ty, mk_isr, List.mem_cons, List.not_mem_nil, or_false, or_true, false_or, true_or, Nat.reduceEqDiff, Nat.reduceAdd, Nat.reduceSub, Nat.reduceLT, Nat.reduceLeDiff, ↓reduceIte, if_true, if_false, List.getElem?_cons_zero, List.getElem?_cons_succ, List.set_cons_zero, List.set_cons_succ, List.length_cons, List.length_nil, mz_s1, mz_s2, mz_cl, true_and, and_true, false_and, and_false, List.append_nil, mk_b0, mk_b1, mk_b2, mk_bn, Value.int.injEq, Option.toList_some, Option.toList_none, List.cons_append, List.nil_append, Classical.not_not, Option.some.injEq, reduceCtorEq, ne_eq, not_true_eq_false, not_false_eq_true, false_implies, true_implies, ev_36, ev_41, ev_79, ft_4_1, fn_4_1, ev_56, ft_4_0, fn_4_0, ft_9_1, fn_9_1, ev_76, ev_77, ev_48, ev_61, ev_64, mz_rl d_Sorter_passOnce_86, mz_rl d_Sorter_passOnce_88, mz_rl d_Sorter_passOnce_89, mz_rl d_Sorter_passOnce_92, mz_rl d_Sorter_passOnce_95, mz_rl d_Sorter_passOnce_96, mz_rl d_Sorter_passOnce_99, mz_rl d_Sorter_passOnce_101, mz_rl d_Sorter_passOnce_102, mz_rl d_Sorter_passOnce_105, mz_rl d_Sorter_passOnce_107, mz_rl d_Sorter_passOnce_108, mz_rl d_Sorter_passOnce_109, mz_rl d_Sorter_passOnce_112, mz_rl d_Sorter_passOnce_115, mz_rl d_Sorter_passOnce_117, j_Sorter_passOnce_92, j_Sorter_passOnce_112, nF_9, h0, h1, h7, mz_u_n hda, mz_u_n h5a, mz_u_n (Ne.symm ha7), mz_u_n hca, e2, nI_leI (show sz < 2 ^ 31 by omega) (show i < 2 ^ 31 by omega), show ¬ sz ≤ i by omega, mz_u_s, vp_in_nI (show i < 200 by omega) (show 200 < 2 ^ 31 by decide), nI_clamp (show i < 2 ^ 31 by omega), e1, va_rf, nI_add, mz_uu]
    rw [← e1, cpy_up T g i]
    exact ih (i + 1) (by omega)
/-- the order of the cards behind a pass -/
def pord (q c : Nat → Nat) (T : Nat → Option Nat) (sz : Nat) : Nat → Option Nat := stk c (posP q sz) T sz
theorem pord_ps {g T : Nat → Option Nat} {sz K : Nat} {c q : Nat → Nat} (hP : Ps g sz c K) (hq : ∀ j, j < sz → q j < 11) : ∃ c', Ps (cpy (pord q c T sz) g sz) sz c' K ∧ ∀ j, j < sz → ∃ i, i < sz ∧ c' j = c i := by
  have h : ∀ j, ∃ x, j < sz → pord q c T sz j = some (172 + 2 * x) ∧ x < K ∧ ∃ i, i < sz ∧ x = c i := by
    intro j
    by_cases hj : j < sz
    · obtain ⟨i, a, b, e⟩ := stk_at c (posP q sz) T sz j (posP_onto hq hj)
      exact ⟨c i, fun _ => ⟨e, (hP i a).2, i, a, rfl⟩⟩
    · exact ⟨0, fun z => absurd z hj⟩
  refine ⟨fun j => Classical.choose (h j), fun j hj => ?_, fun j hj => ?_⟩
  · have := Classical.choose_spec (h j) hj
    rw [cpy_lt hj]
    exact ⟨this.1, this.2.1⟩
  · exact (Classical.choose_spec (h j) hj).2.2
theorem c_Sorter_passOnce (G : mz_G) (X : mz_E) (n : Nat) (f : mz_H) {d a sz col K : Nat} {ps : Int32} {g T : Nat → Option Nat} {gp : Nat → Int32} {s : Nat → Nat → Nat} {c : Nat → Nat} (z : Bool) (h0 : f 5 = .inr (9, [.ref 6, .ref 7, .int ps])) (h1 : f d = .inr (4, [.ref a, .int (nI sz)])) (h2 : f a = aQ 6 200 g) (h6 : f 6 = aI 11 gp) (h7 : f 7 = aQ 6 200 T) (hd : d < 172) (ha : a < 172) (ha7 : a ≠ 7) (hs : sz ≤ 200) (hC : Cd f K s) (hP : Ps g sz c K) (hc : col < 16) :
    mz_Ct G X y_Sorter_passOnce b_Sorter_passOnce 7 (some .int) (r_Sorter_passOnce 0 0) [.ref 5, .ref d, .int (nI col), .int (mk_b (z = true))] n f (fun v n' f' => ∃ q, q = (fun i => pk s col z (c i)) ∧ v = some (.int (nI (us (fun r => cntP q r sz) 11))) ∧ n' = n ∧ f' = mz_u (mz_u (mz_u (mz_u f 5 (.inr (9, [.ref 6, .ref 7, .int (ps + nI 1)]))) 6 (aI 11 (cpy (fun p => nI (sm (fun r => cntP q r sz) p + cntP q p sz)) gp 11))) 7 (aQ 6 200 (pord q c T sz))) a (aQ 6 200 (cpy (pord q c T sz) g sz))) := by
  have ha6 : a ≠ 6 := by rintro rfl; rw [h2] at h6; cases h6
  have ha5 : a ≠ 5 := by rintro rfl; rw [h0] at h2; cases h2
  have hd6 : d ≠ 6 := by rintro rfl; rw [h1] at h6; cases h6
  have hd7 : d ≠ 7 := by rintro rfl; rw [h1] at h7; cases h7
  have hd5 : d ≠ 5 := by rintro rfl; rw [h1] at h0; cases h0
  obtain ⟨q, hq⟩ : ∃ q : Nat → Nat, q = fun i => pk s col z (c i) := ⟨_, rfl⟩
  have hqlt : ∀ j, j < sz → q j < 11 := fun j hj => by rw [hq]; exact pok_lt ((hC _ (hP j hj).2).2.2 col hc)
  refine mk_Ct 9 false [some (.ref 5), some (.ref d), some (.int (nI col)), some (.int (mk_b (z = true))), none, none, none] (by decide) rfl (by decide) (Nat.le_of_ble_eq_true rfl) rfl ?_
  refine mz_go [14] 12 ?_
  simp only [mz_r0, mk_lit, mk_fin, mk_cat, mk_fit, mk_nar, mk_cls, mk_ty, mk_isr, List.mem_cons, List.not_mem_nil, or_false, or_true, false_or, true_or, Nat.reduceEqDiff, Nat.reduceAdd, Nat.reduceSub, Nat.reduceLT, Nat.reduceLeDiff, ↓reduceIte, if_true, if_false, List.getElem?_cons_zero, List.getElem?_cons_succ, List.set_cons_zero, List.set_cons_succ, List.length_cons, List.length_nil, mz_s1, mz_s2, mz_cl, true_and, and_true, false_and, and_false, List.append_nil, mk_b0, mk_b1, mk_b2, mk_bn, Value.int.injEq, Option.toList_some, Option.toList_none, List.cons_append, List.nil_append, Classical.not_not, Option.some.injEq, reduceCtorEq, ne_eq, not_true_eq_false, not_false_eq_true, false_implies, true_implies, ev_41, ev_32, ev_79, ft_9_2, fn_9_2, ev_0, ev_5, ev_80, ev_37, mz_rl d_Sorter_passOnce_0, mz_rl d_Sorter_passOnce_1, mz_rl d_Sorter_passOnce_2, mz_rl d_Sorter_passOnce_5, mz_rl d_Sorter_passOnce_6, mz_rl d_Sorter_passOnce_7, mz_rl d_Sorter_passOnce_10, mz_rl d_Sorter_passOnce_11, mz_rl d_Sorter_passOnce_12, mz_rl d_Sorter_passOnce_13, nF_9, h0]
  generalize hF : mz_u f 5 (.inr (9, [.ref 6, .ref 7, .int (ps + nI 1)])) = F
  have f5 : F 5 = .inr (9, [.ref 6, .ref 7, .int (ps + nI 1)]) := by rw [← hF, mz_u_s]
  have f6 : F 6 = aI 11 gp := by rw [← hF, mz_u_n (by decide)]; exact h6
  have f7 : F 7 = aQ 6 200 T := by rw [← hF, mz_u_n (by decide)]; exact h7
  have fd : F d = .inr (4, [.ref a, .int (nI sz)]) := by rw [← hF, mz_u_n hd5]; exact h1
  have fa : F a = aQ 6 200 g := by rw [← hF, mz_u_n ha5]; exact h2
  have hC' : Cd F K s := by rw [← hF]; exact Cd_u hC (by decide) _
  refine mz_callV (by simp only [d_Sorter_passOnce_14, Nat.reduceAdd]) g_9_25 rfl (fun _ _ h => h) (c_Sorter_fillPockets G X n F z f5 fd fa f6 hs hC' hP hc) f5 rfl rfl (by decide) (Nat.le_of_ble_eq_true rfl) rfl ?_; intro v_ n_ f_ h_; obtain ⟨rfl, hn_, hf_⟩ := h_; replace hn_ := hn_.symm; replace hf_ := hf_.symm; subst hn_; subst hf_
  rw [← hq]
  refine mz_go [18] 12 ?_
  simp only [mz_r0, mk_lit, mk_fin, mk_cat, mk_fit, mk_nar, mk_cls, mk_ty, mk_isr, List.mem_cons, List.not_mem_nil, or_false, or_true, false_or, true_or, Nat.reduceEqDiff, Nat.reduceAdd, Nat.reduceSub, Nat.reduceLT, Nat.reduceLeDiff, ↓reduceIte, if_true, if_false, List.getElem?_cons_zero, List.getElem?_cons_succ, List.set_cons_zero, List.set_cons_succ, List.length_cons, List.length_nil, mz_s1, mz_s2, mz_cl, true_and, and_true, false_and, and_false, List.append_nil, mk_b0, mk_b1, mk_b2, mk_bn, Value.int.injEq, Option.toList_some, Option.toList_none, List.cons_append, List.nil_append, Classical.not_not, Option.some.injEq, reduceCtorEq, ne_eq, not_true_eq_false, not_false_eq_true, false_implies, true_implies, ev_41, mz_rl d_Sorter_passOnce_17, nF_9]
  have eZ : (fun p => nI (0 + cntP q p sz)) = fun p => nI (cntP q p sz) := by funext p; rw [Nat.zero_add]
  rw [eZ]
  refine mz_callV (by simp only [d_Sorter_passOnce_18, Nat.reduceAdd]) g_9_29 rfl (fun _ _ h => h) (c_Sorter_stackPockets G X n _ (cn := fun p => cntP q p sz) (gp := gp) (by rw [mz_u_n (by decide)]; exact f5) (by rw [mz_u_s]) (fun p _ => by have := cntP_le q p sz; omega)) (by rw [mz_u_n (by decide)]; exact f5) rfl rfl (by decide) (Nat.le_of_ble_eq_true rfl) rfl ?_; intro v_ n_ f_ h_; obtain ⟨rfl, hn_, hf_⟩ := h_; replace hn_ := hn_.symm; replace hf_ := hf_.symm; subst hn_; subst hf_
  refine mz_go [26] 12 ?_
  simp only [mz_r0, mk_lit, mk_fin, mk_cat, mk_fit, mk_nar, mk_cls, mk_ty, mk_isr, List.mem_cons, List.not_mem_nil, or_false, or_true, false_or, true_or, Nat.reduceEqDiff, Nat.reduceAdd, Nat.reduceSub, Nat.reduceLT, Nat.reduceLeDiff, ↓reduceIte, if_true, if_false, List.getElem?_cons_zero, List.getElem?_cons_succ, List.set_cons_zero, List.set_cons_succ, List.length_cons, List.length_nil, mz_s1, mz_s2, mz_cl, true_and, and_true, false_and, and_false, List.append_nil, mk_b0, mk_b1, mk_b2, mk_bn, Value.int.injEq, Option.toList_some, Option.toList_none, List.cons_append, List.nil_append, Classical.not_not, Option.some.injEq, reduceCtorEq, ne_eq, not_true_eq_false, not_false_eq_true, false_implies, true_implies, ev_42, ev_0, mz_rl d_Sorter_passOnce_21, mz_rl d_Sorter_passOnce_23, mz_rl d_Sorter_passOnce_24, nF_9, mz_uu]
  have eS : (fun r => nI (sm (fun p => cntP q p sz) r)) = fun p => nI (sm (fun r => cntP q r sz) p + cntP q p 0) := by funext p; rfl
  rw [eS]
  have := l_Sorter_passOnce1 G X n F (T := T) (gp := gp) (z := z) (us0 := nI (us (fun r => cntP q r sz) 11)) (fun v n' f' => ∃ q, q = (fun i => pk s col z (c i)) ∧ v = some (.int (nI (us (fun r => cntP q r sz) 11))) ∧ n' = n ∧ f' = mz_u (mz_u (mz_u F 6 (aI 11 (cpy (fun p => nI (sm (fun r => cntP q r sz) p + cntP q p sz)) gp 11))) 7 (aQ 6 200 (pord q c T sz))) a (aQ 6 200 (cpy (pord q c T sz) g sz))) f5 fd fa hd ha ha6 ha7 hd6 hd7 hs hC' hP hc hq ?_ sz 0 none (by omega)
  · have e7 : mz_u (mz_u F 6 (aI 11 (cpy (fun p => nI (sm (fun r => cntP q r sz) p + cntP q p 0)) gp 11))) 7 (aQ 6 200 T) = mz_u F 6 (aI 11 (cpy (fun p => nI (sm (fun r => cntP q r sz) p + cntP q p 0)) gp 11)) := mz_ui (by rw [mz_u_n (by decide)]; exact f7)
    have e8 : stk c (posP q sz) T 0 = T := rfl
    rw [e8, e7, ← hq] at this
    exact this
  · intro w6
    refine mz_go [86] 12 ?_
    simp only [mz_r0, mk_lit, mk_fin, mk_cat, mk_fit, mk_nar, mk_cls, mk_ty, mk_isr, List.mem_cons, List.not_mem_nil, or_false, or_true, false_or, true_or, Nat.reduceEqDiff, Nat.reduceAdd, Nat.reduceSub, Nat.reduceLT, Nat.reduceLeDiff, ↓reduceIte, if_true, if_false, List.getElem?_cons_zero, List.getElem?_cons_succ, List.set_cons_zero, List.set_cons_succ, List.length_cons, List.length_nil, mz_s1, mz_s2, mz_cl, true_and, and_true, false_and, and_false, List.append_nil, mk_b0, mk_b1, mk_b2, mk_bn, Value.int.injEq, Option.toList_some, Option.toList_none, List.cons_append, List.nil_append, Classical.not_not, Option.some.injEq, reduceCtorEq, ne_eq, not_true_eq_false, not_false_eq_true, false_implies, true_implies, ev_36, ev_41, ev_79, ft_4_1, fn_4_1, ev_56, ev_0, ev_42, mz_rl d_Sorter_passOnce_26, mz_rl d_Sorter_passOnce_28, mz_rl d_Sorter_passOnce_29, mz_rl d_Sorter_passOnce_32, mz_rl d_Sorter_passOnce_35, mz_rl d_Sorter_passOnce_36, mz_rl d_Sorter_passOnce_38, mz_rl d_Sorter_passOnce_83, mz_rl d_Sorter_passOnce_84, j_Sorter_passOnce_32, nF_9]
    generalize hF2 : mz_u (mz_u F 6 (aI 11 (cpy (fun p => nI (sm (fun r => cntP q r sz) p + cntP q p sz)) gp 11))) 7 (aQ 6 200 (stk c (posP q sz) T sz)) = F2
    have g5 : F2 5 = .inr (9, [.ref 6, .ref 7, .int (ps + nI 1)]) := by rw [← hF2, mz_u_n (by decide), mz_u_n (by decide)]; exact f5
    have g7 : F2 7 = aQ 6 200 (stk c (posP q sz) T sz) := by rw [← hF2, mz_u_s]
    have gd : F2 d = .inr (4, [.ref a, .int (nI sz)]) := by rw [← hF2, mz_u_n hd7, mz_u_n hd6]; exact fd
    have ga : F2 a = aQ 6 200 g := by rw [← hF2, mz_u_n ha7, mz_u_n ha6]; exact fa
    have hC2 : Cd F2 K s := by rw [← hF2]; exact Cd_u (Cd_u hC' (by decide) _) (by decide) _
    have := l_Sorter_passOnce2 G X n F2 (g := g) (T := stk c (posP q sz) T sz) (l2 := some (.int (nI col))) (l3 := some (.int (mk_b (z = true)))) (w6 := w6) (us0 := nI (us (fun r => cntP q r sz) 11)) g5 gd ga g7 ha7 hs (fun j hj => by
      obtain ⟨i, a1, b1, e1⟩ := stk_at c (posP q sz) T sz j (posP_onto hqlt hj)
      exact ⟨_, _, e1, (hC2 _ (hP i a1).2).1⟩) sz 0 (by omega)
    rw [cpy_0, mz_ui ga] at this
    refine mz_mono ?_ this
    rintro v n' f' ⟨rfl, rfl, rfl⟩
    exact ⟨q, hq, rfl, rfl, by rw [← hF2]; rfl⟩
end
section
/-! orders: a row of cards by keys, those of one key in the order in which they lay -/
theorem ps_onto : ∀ (m : Nat) (π : Nat → Nat), (∀ a, a < m → π a < m) → (∀ a b, a < m → b < m → π a = π b → a = b) → ∀ r, r < m → ∃ a, a < m ∧ π a = r := by
  intro m
  induction m with
  | zero => intro π _ _ r hr; exact absurd hr (Nat.not_lt_zero _)
  | succ m ih =>
    intro π h1 h2 r hr
    have hs1 : ∀ a, a < m → (if π a = m then π m else π a) < m := by
      intro a ha
      have q1 := h1 a (by omega)
      have q2 := h1 m (by omega)
      split
      · rename_i e
        have : π m ≠ m := fun z => by
          have := h2 a m (by omega) (by omega) (e.trans z.symm)
          omega
        omega
      · omega
    have hs2 : ∀ a b, a < m → b < m → (if π a = m then π m else π a) = (if π b = m then π m else π b) → a = b := by
      intro a b ha hb e
      by_cases e1 : π a = m
      · by_cases e2 : π b = m
        · exact h2 a b (by omega) (by omega) (e1.trans e2.symm)
        · rw [if_pos e1, if_neg e2] at e
          have := h2 m b (by omega) (by omega) e
          omega
      · by_cases e2 : π b = m
        · rw [if_neg e1, if_pos e2] at e
          have := h2 a m (by omega) (by omega) e
          omega
        · rw [if_neg e1, if_neg e2] at e
          exact h2 a b (by omega) (by omega) e
    have on := ih (fun a => if π a = m then π m else π a) hs1 hs2
    have hm := h1 m (by omega)
    by_cases e : r = π m
    · exact ⟨m, by omega, e.symm⟩
    · by_cases er : r = m
      · obtain ⟨a, ha, q⟩ := on (π m) (by omega)
        have q' : (if π a = m then π m else π a) = π m := q
        by_cases e1 : π a = m
        · exact ⟨a, by omega, e1.trans er.symm⟩
        · rw [if_neg e1] at q'
          have := h2 a m (by omega) (by omega) q'
          omega
      · obtain ⟨a, ha, q⟩ := on r (by omega)
        have q' : (if π a = m then π m else π a) = r := q
        by_cases e1 : π a = m
        · rw [if_pos e1] at q'
          exact absurd q'.symm e
        · rw [if_neg e1] at q'
          exact ⟨a, by omega, q'⟩
def ltK (k : Nat → Nat) (i j : Nat) : Prop := k i < k j ∨ k i = k j ∧ i < j
/-- π tells 0 .. m - 1 in the order of the keys -/
def enu (k : Nat → Nat) (m : Nat) (π : Nat → Nat) : Prop := (∀ a, a < m → π a < m) ∧ ∀ a b, a < b → b < m → ltK k (π a) (π b)
theorem enu_inj {k π : Nat → Nat} {m a b : Nat} (h : enu k m π) (ha : a < m) (hb : b < m) (e : π a = π b) : a = b := by
  rcases Nat.lt_trichotomy a b with z | z | z
  · have := h.2 a b z hb; unfold ltK at this; rw [e] at this; omega
  · exact z
  · have := h.2 b a z ha; unfold ltK at this; rw [e] at this; omega
theorem enu_onto {k π : Nat → Nat} {m r : Nat} (h : enu k m π) (hr : r < m) : ∃ a, a < m ∧ π a = r := ps_onto m π h.1 (fun _ _ ha hb e => enu_inj h ha hb e) r hr
theorem enu_uniq {k π ρ : Nat → Nat} {m : Nat} (h1 : enu k m π) (h2 : enu k m ρ) : ∀ a, a < m → π a = ρ a := by
  intro a
  induction a using Nat.strongRecOn with
  | _ a ih =>
    intro ha
    by_cases e : π a = ρ a
    · exact e
    have tot : ltK k (π a) (ρ a) ∨ ltK k (ρ a) (π a) := by unfold ltK; omega
    rcases tot with t | t
    · obtain ⟨b, hb, q⟩ := enu_onto h2 (h1.1 a ha)
      rcases Nat.lt_trichotomy b a with z | z | z
      · have w := ih b z hb
        have := enu_inj h1 hb ha (w.trans q)
        omega
      · subst z; exact absurd q.symm e
      · have w := h2.2 a b z hb
        rw [q] at w
        unfold ltK at w t
        omega
    · obtain ⟨b, hb, q⟩ := enu_onto h1 (h2.1 a ha)
      rcases Nat.lt_trichotomy b a with z | z | z
      · have w := ih b z hb
        have := enu_inj h2 hb ha (w.symm.trans q)
        omega
      · subst z; exact q
      · have w := h1.2 a b z hb
        rw [q] at w
        unfold ltK at w t
        omega
theorem enu_cong {k k' π : Nat → Nat} {m : Nat} (h : enu k m π) (e : ∀ i, i < m → k i = k' i) : enu k' m π := by
  refine ⟨h.1, fun a b hab hb => ?_⟩
  have := h.2 a b hab hb
  unfold ltK at this ⊢
  rw [← e _ (h.1 a (by omega)), ← e _ (h.1 b hb)]
  exact this
theorem enu_id {k : Nat → Nat} {m : Nat} (h : ∀ i, i + 1 < m → k i ≤ k (i + 1)) : enu k m (fun i => i) := by
  refine ⟨fun a ha => ha, fun a b hab hb => ?_⟩
  have : ∀ d, a + d < m → k a ≤ k (a + d) := by
    intro d
    induction d with
    | zero => intro _; exact Nat.le_refl _
    | succ d ih => intro hd; exact Nat.le_trans (ih (by omega)) (h (a + d) hd)
  have w := this (b - a) (by omega)
  rw [show a + (b - a) = b by omega] at w
  show ltK k a b
  unfold ltK
  omega
theorem posP_ord {q : Nat → Nat} {m i j : Nat} (hi : i < m) (h : ltK q i j) : posP q m i < posP q m j := by
  unfold posP
  rcases h with h | ⟨h, hij⟩
  · have h1 := cntP_lt q hi
    have h2 := sm_mono (fun p => cntP q p m) (show q i + 1 ≤ q j from h)
    have h3 : sm (fun p => cntP q p m) (q i + 1) = sm (fun p => cntP q p m) (q i) + cntP q (q i) m := rfl
    omega
  · have h1 := cntP_lt q hij
    rw [h] at h1 ⊢
    omega
/-- a pass lays the row by a key ahead of the key by which it lay -/
theorem enu_pass {k Q π π' q : Nat → Nat} {m M P : Nat} (h : enu k m π) (hk : ∀ i, i < m → k i < M) (hq : ∀ r, r < m → q r = Q (π r)) (hP : ∀ r, r < m → q r < P) (h' : ∀ r, r < m → π' (posP q m r) = π r) : enu (fun i => Q i * M + k i) m π' := by
  have low : ∀ a, a < m → ∃ r, r < m ∧ posP q m r = a ∧ π' a = π r := by
    intro a ha
    obtain ⟨r, hr, e⟩ := posP_onto hP ha
    exact ⟨r, hr, e, by rw [← e]; exact h' r hr⟩
  refine ⟨fun a ha => ?_, fun a b hab hb => ?_⟩
  · obtain ⟨r, hr, -, e⟩ := low a ha
    rw [e]; exact h.1 r hr
  · obtain ⟨r, hr, er, e1⟩ := low a (by omega)
    obtain ⟨t, ht, et, e2⟩ := low b hb
    have hlt : ltK q r t := by
      rcases (show ltK q r t ∨ r = t ∨ ltK q t r by unfold ltK; omega) with z | z | z
      · exact z
      · subst z; omega
      · have := posP_ord ht z; omega
    rw [e1, e2]
    unfold ltK at hlt ⊢
    rw [hq r hr, hq t ht] at hlt
    have k1 := hk _ (h.1 r hr)
    have k2 := hk _ (h.1 t ht)
    rcases hlt with z | ⟨z, z2⟩
    · left
      have := Nat.mul_le_mul_right M (show Q (π r) + 1 ≤ Q (π t) from z)
      rw [Nat.add_mul] at this
      show Q (π r) * M + k (π r) < Q (π t) * M + k (π t)
      omega
    · have w := h.2 r t z2 ht
      unfold ltK at w
      show Q (π r) * M + k (π r) < Q (π t) * M + k (π t) ∨ Q (π r) * M + k (π r) = Q (π t) * M + k (π t) ∧ π r < π t
      rw [z]
      omega
/-! the key of a card on a field -/
def rkV (r : Nat) : Nat := if r = 0 then 32 else if r < 11 then r + 47 else if r < 22 then r + 69 else if r < 33 then r + 50 else r + 30
theorem rk_inv' : ∀ c, c < 91 → (c = 32 ∨ 48 ≤ c ∧ c ≤ 57 ∨ 65 ≤ c ∧ c ≤ 90) → rkV (rk c) = c := by decide +kernel
theorem rk_inj {c d : Nat} (hc : sg c) (hd : sg d) (e : rk c = rk d) : c = d := by
  have h1 := rk_inv' c (sg_lt hc) hc
  have h2 := rk_inv' d (sg_lt hd) hd
  rw [← h1, e]; exact h2
theorem rk_lt' : ∀ c, c < 91 → (c = 32 ∨ 48 ≤ c ∧ c ≤ 57 ∨ 65 ≤ c ∧ c ≤ 90) → rk c < 64 := by decide +kernel
theorem rk_lt {c : Nat} (hc : sg c) : rk c < 64 := rk_lt' c (sg_lt hc) hc
def keyF (t : Nat → Nat) : Nat → Nat → Nat
  | _, 0 => 0
  | k, m + 1 => rk (t k) * 64 ^ m + keyF t (k + 1) m
theorem keyF_lt {t : Nat → Nat} (ht : ∀ j, j < 16 → sg (t j)) : ∀ m k, k + m ≤ 16 → keyF t k m < 64 ^ m := by
  intro m
  induction m with
  | zero => intro k _; show 0 < 1; decide
  | succ m ih =>
    intro k hk
    have h1 := ih (k + 1) (by omega)
    have h2 := Nat.mul_le_mul_right (64 ^ m) (show rk (t k) + 1 ≤ 64 from rk_lt (ht k (by omega)))
    rw [Nat.add_mul] at h2
    show rk (t k) * 64 ^ m + keyF t (k + 1) m < 64 ^ (m + 1)
    rw [Nat.pow_succ]
    omega
theorem lx_lt {a b x y M : Nat} (hx : x < M) (h : a < b) : a * M + x < b * M + y := by
  have := Nat.mul_le_mul_right M (show a + 1 ≤ b from h)
  rw [Nat.add_mul] at this
  omega
theorem ic_sgn {a b : Nat} (ha : a < 2 ^ 31) (hb : b < 2 ^ 31) : (ic (nI a) (nI b) < 0 ↔ a < b) ∧ (ic (nI a) (nI b) = nI 0 ↔ a = b) := by
  unfold ic
  by_cases h : a < b
  · rw [if_pos ((nI_ltI ha hb).mpr h)]
    exact ⟨⟨fun _ => h, fun _ => by decide⟩, ⟨fun z => absurd z (by decide), fun z => by omega⟩⟩
  · rw [if_neg (fun z => h ((nI_ltI ha hb).mp z))]
    by_cases h2 : a = b
    · rw [if_pos (by rw [h2])]
      exact ⟨⟨fun z => absurd z (by decide), fun z => by omega⟩, ⟨fun _ => h2, fun _ => rfl⟩⟩
    · rw [if_neg (fun z => h2 ((nI_eq ha hb).mp z))]
      exact ⟨⟨fun z => absurd z (by decide), fun z => by omega⟩, ⟨fun z => absurd z (by decide), fun z => absurd z h2⟩⟩
theorem cmpK_key {s1 s2 : Nat → Nat} (h1 : ∀ j, j < 16 → sg (s1 j)) (h2 : ∀ j, j < 16 → sg (s2 j)) : ∀ m k, k + m ≤ 16 → (cmpK s1 s2 k m < 0 ↔ keyF s1 k m < keyF s2 k m) ∧ (cmpK s1 s2 k m = nI 0 ↔ keyF s1 k m = keyF s2 k m) := by
  intro m
  induction m with
  | zero => intro k _; exact ⟨⟨fun z => absurd (show nI 0 < (0 : Int32) from z) (by decide), fun z => absurd z (Nat.lt_irrefl _)⟩, ⟨fun _ => rfl, fun _ => rfl⟩⟩
  | succ m ih =>
    intro k hk
    have q := ih (k + 1) (by omega)
    unfold cmpK keyF
    by_cases e : s1 k = s2 k
    · rw [if_pos e, e]
      exact ⟨⟨fun z => by have := q.1.mp z; omega, fun z => q.1.mpr (by omega)⟩, ⟨fun z => by have := q.2.mp z; omega, fun z => q.2.mpr (by omega)⟩⟩
    · rw [if_neg e]
      have r1 := rk_lt (h1 k (by omega))
      have r2 := rk_lt (h2 k (by omega))
      have w := ic_sgn (a := rk (s1 k)) (b := rk (s2 k)) (by omega) (by omega)
      have b1 := keyF_lt h1 m (k + 1) (by omega)
      have b2 := keyF_lt h2 m (k + 1) (by omega)
      have ne : rk (s1 k) ≠ rk (s2 k) := fun z => e (rk_inj (h1 k (by omega)) (h2 k (by omega)) z)
      refine ⟨⟨fun z => lx_lt b1 (w.1.mp z), fun z => w.1.mpr ?_⟩, ⟨fun z => absurd (w.2.mp z) ne, fun z => ?_⟩⟩
      · rcases Nat.lt_or_ge (rk (s1 k)) (rk (s2 k)) with y | y
        · exact y
        · have := lx_lt (y := keyF s1 (k + 1) m) b2 (show rk (s2 k) < rk (s1 k) by omega)
          omega
      · exfalso
        rcases Nat.lt_or_ge (rk (s1 k)) (rk (s2 k)) with y | y
        · have := lx_lt (y := keyF s2 (k + 1) m) b1 y
          omega
        · have := lx_lt (y := keyF s1 (k + 1) m) b2 (show rk (s2 k) < rk (s1 k) by omega)
          omega
/-- the key of card x on the field from fr to to -/
def keyC (s : Nat → Nat → Nat) (fr to x : Nat) : Nat := keyF (s x) fr (to + 1 - fr)
theorem cmpC_key {s : Nat → Nat → Nat} {fr to x y : Nat} (hx : ∀ j, j < 16 → sg (s x j)) (hy : ∀ j, j < 16 → sg (s y j)) (hf : fr ≤ to) (ht : to < 16) : (cmpC s fr to x y < 0 ↔ keyC s fr to x < keyC s fr to y) ∧ (cmpC s fr to x y = nI 0 ↔ keyC s fr to x = keyC s fr to y) := cmpK_key hx hy (to + 1 - fr) fr (by omega)
theorem posP_inj {q : Nat → Nat} {m i j : Nat} (hi : i < m) (hj : j < m) (e : posP q m i = posP q m j) : i = j := by
  rcases (show ltK q i j ∨ i = j ∨ ltK q j i by unfold ltK; omega) with z | z | z
  · have := posP_ord hi z; omega
  · exact z
  · have := posP_ord hj z; omega
/-- what a pass does to a row -/
theorem pass_pi {q π : Nat → Nat} {P m : Nat} (hq : ∀ r, r < m → q r < P) : ∃ π' : Nat → Nat, ∀ r, r < m → π' (posP q m r) = π r := by
  have h : ∀ j, ∃ x, j < m → ∃ r, r < m ∧ posP q m r = j ∧ x = π r := by
    intro j
    by_cases hj : j < m
    · obtain ⟨r, a, b⟩ := posP_onto hq hj
      exact ⟨π r, fun _ => ⟨r, a, b, rfl⟩⟩
    · exact ⟨0, fun z => absurd z hj⟩
  refine ⟨fun j => Classical.choose (h j), fun r hr => ?_⟩
  obtain ⟨r', a, b, e⟩ := Classical.choose_spec (h (posP q m r)) (posP_lt hq hr)
  have := posP_inj a hr b
  subst this
  exact e
theorem pord_ex {g T : Nat → Option Nat} {sz K : Nat} {c q : Nat → Nat} (hP : Ps g sz c K) (hq : ∀ j, j < sz → q j < 11) : ∃ c', Ps (cpy (pord q c T sz) g sz) sz c' K ∧ ∀ i, i < sz → c' (posP q sz i) = c i := by
  obtain ⟨c', hc⟩ := pass_pi (π := c) hq
  refine ⟨c', fun j hj => ?_, hc⟩
  obtain ⟨i, a, b, e⟩ := stk_at c (posP q sz) T sz j (posP_onto hq hj)
  rw [cpy_lt hj, ← b, hc i a]
  exact ⟨by rw [b]; exact e, (hP i a).2⟩
theorem znB_iff {s : Nat → Nat → Nat} {col : Nat} {c : Nat → Nat} : ∀ m i, znB s col c i m = true ↔ ∃ j, i ≤ j ∧ j < i + m ∧ 0 < zn (s (c j) col) := by
  intro m
  induction m with
  | zero => intro i; exact ⟨fun z => (by cases z), fun ⟨j, a, b, _⟩ => absurd b (by omega)⟩
  | succ m ih =>
    intro i
    unfold znB
    by_cases h : 0 < zn (s (c i) col)
    · rw [if_pos h]; exact ⟨fun _ => ⟨i, Nat.le_refl _, by omega, h⟩, fun _ => rfl⟩
    · rw [if_neg h, ih (i + 1)]
      refine ⟨fun ⟨j, a, b, d⟩ => ⟨j, by omega, by omega, d⟩, fun ⟨j, a, b, d⟩ => ⟨j, ?_, by omega, d⟩⟩
      by_cases e : j = i
      · subst e; exact absurd d h
      · omega
theorem znB_perm {s : Nat → Nat → Nat} {col sz : Nat} {c c0 π k : Nat → Nat} (h : enu k sz π) (hc : ∀ r, r < sz → c r = c0 (π r)) : znB s col c 0 sz = znB s col c0 0 sz := by
  have : znB s col c 0 sz = true ↔ znB s col c0 0 sz = true := by
    rw [znB_iff, znB_iff]
    refine ⟨fun ⟨j, _, b, d⟩ => ⟨π j, Nat.zero_le _, by have := h.1 j (by omega); omega, by rw [← hc j (by omega)]; exact d⟩, fun ⟨j, _, b, d⟩ => ?_⟩
    obtain ⟨r, hr, e⟩ := enu_onto h (show j < sz by omega)
    exact ⟨r, Nat.zero_le _, by omega, by rw [hc r hr, e]; exact d⟩
  cases h1 : znB s col c 0 sz <;> cases h2 : znB s col c0 0 sz <;> simp_all
/-- a column's passes, and what they make of the key -/
theorem key_dp {t : Nat → Nat} {col m : Nat} (hz : zn (t col) = 0) : dp (t col) * 64 ^ m + keyF t (col + 1) m = keyF t col (m + 1) := by
  show _ = rk (t col) * 64 ^ m + keyF t (col + 1) m
  unfold rk
  rw [hz, Nat.zero_mul, Nat.zero_add]
theorem key_zn {t : Nat → Nat} {col m : Nat} : zn (t col) * (11 * 64 ^ m) + (dp (t col) * 64 ^ m + keyF t (col + 1) m) = keyF t col (m + 1) := by
  show _ = rk (t col) * 64 ^ m + keyF t (col + 1) m
  unfold rk
  rw [Nat.add_mul, ← Nat.mul_assoc, Nat.add_assoc]
theorem key_lt2 {t : Nat → Nat} (ht : ∀ j, j < 16 → sg (t j)) {col m : Nat} (h : col + 1 + m ≤ 16) : dp (t col) * 64 ^ m + keyF t (col + 1) m < 11 * 64 ^ m := by
  have h1 := keyF_lt ht m (col + 1) h
  have h2 := Nat.mul_le_mul_right (64 ^ m) (show dp (t col) + 1 ≤ 11 from dp_lt (ht col (by omega)))
  rw [Nat.add_mul] at h2
  omega
/-- passes for the column k -/
def wpN (s : Nat → Nat → Nat) (c : Nat → Nat) (sz k : Nat) : Nat := if znB s k c 0 sz = true then 2 else 1
theorem a32 (x y : Int32) : x + y - x = y := by rw [Int32.add_comm, Int32.add_sub_cancel]
end
section
/-- the sorter's cells and a deck's array, the rest as it was -/
def sH (f : mz_H) (a : Nat) (ps : Int32) (gp : Nat → Int32) (T g : Nat → Option Nat) : mz_H := mz_u (mz_u (mz_u (mz_u f 5 (.inr (9, [.ref 6, .ref 7, .int ps]))) 6 (aI 11 gp)) 7 (aQ 6 200 T)) a (aQ 6 200 g)
theorem sH_sH (f : mz_H) {a : Nat} {ps ps' : Int32} {gp gp' : Nat → Int32} {T g T' g' : Nat → Option Nat} : sH (sH f a ps gp T g) a ps' gp' T' g' = sH f a ps' gp' T' g' := by
  funext j
  unfold sH mz_u
  by_cases h1 : j = a
  · simp [h1]
  · by_cases h2 : j = 7
    · simp [h1, h2]
    · by_cases h3 : j = 6
      · simp [h1, h2, h3]
      · by_cases h4 : j = 5
        · simp [h1, h2, h3, h4]
        · simp [h1, h2, h3, h4]
theorem sH_id {f : mz_H} {a : Nat} {ps : Int32} {gp : Nat → Int32} {T g : Nat → Option Nat} (h5 : f 5 = .inr (9, [.ref 6, .ref 7, .int ps])) (h6 : f 6 = aI 11 gp) (h7 : f 7 = aQ 6 200 T) (ha : f a = aQ 6 200 g) : sH f a ps gp T g = f := by
  unfold sH
  rw [mz_ui h5, mz_ui h6, mz_ui h7, mz_ui ha]
theorem l_Sorter_sortOn (G : mz_G) (X : mz_E) (n : Nat) (f : mz_H) {d a sz fr to K : Nat} {s : Nat → Nat → Nat} {ps0 : Int32} {c0 : Nat → Nat} (h1 : f d = .inr (4, [.ref a, .int (nI sz)])) (hd : d < 172) (ha : a < 172) (ha5 : a ≠ 5) (ha6 : a ≠ 6) (ha7 : a ≠ 7) (hda : d ≠ a) (hd5 : d ≠ 5) (hd6 : d ≠ 6) (hd7 : d ≠ 7) (hs : sz ≤ 200) (hC : Cd f K s) (hc0 : ∀ i, i < sz → c0 i < K) (hft : fr ≤ to) (ht : to < 16) :
    ∀ m col N gp T g c π, (col + 1 = fr + m ∧ col ≤ to) → N + sm (wpN s c0 sz) (col + 1) = sm (wpN s c0 sz) (to + 1) → Ps g sz c K → (∀ r, r < sz → c r = c0 (π r)) → enu (fun i => keyF (s (c0 i)) (col + 1) (to - col)) sz π → mz_X G X 9 false b_Sorter_sortOn 6 (some .int) (r_Sorter_sortOn 0 0) (fun v n' f' => ∃ N gp T g c π, N + sm (wpN s c0 sz) fr = sm (wpN s c0 sz) (to + 1) ∧ v = some (.int (nI N)) ∧ n' = n ∧ f' = sH f a (ps0 + nI N) gp T g ∧ Ps g sz c K ∧ (∀ r, r < sz → c r = c0 (π r)) ∧ enu (fun i => keyC s fr to (c0 i)) sz π) (fun _ _ _ => False) 20 [some (.ref 5), some (.ref d), some (.int (nI fr)), some (.int (nI to)), some (.int ps0), some (.int (nI col))] [] 0 0 n (sH f a (ps0 + nI N) gp T g) := by
  have key : ∀ (ps : Int32) (gp : Nat → Int32) (T g : Nat → Option Nat), (sH f a ps gp T g) 5 = .inr (9, [.ref 6, .ref 7, .int ps]) ∧ (sH f a ps gp T g) d = .inr (4, [.ref a, .int (nI sz)]) ∧ (sH f a ps gp T g) a = aQ 6 200 g ∧ (sH f a ps gp T g) 6 = aI 11 gp ∧ (sH f a ps gp T g) 7 = aQ 6 200 T ∧ Cd (sH f a ps gp T g) K s := by
    intro ps gp T g
    unfold sH
    refine ⟨?_, ?_, ?_, ?_, ?_, ?_⟩
    · rw [mz_u_n (Ne.symm ha5), mz_u_n (by decide), mz_u_n (by decide), mz_u_s]
    · rw [mz_u_n hda, mz_u_n hd7, mz_u_n hd6, mz_u_n hd5]; exact h1
    · rw [mz_u_s]
    · rw [mz_u_n (Ne.symm ha6), mz_u_n (by decide), mz_u_s]
    · rw [mz_u_n (Ne.symm ha7), mz_u_s]
    · exact Cd_u (Cd_u (Cd_u (Cd_u hC (by decide) _) (by decide) _) (by decide) _) ha _
  have hsg : ∀ i, i < sz → ∀ j, j < 16 → sg (s (c0 i) j) := fun i hi => (hC _ (hc0 i hi)).2.2
  have hstep : ∀ (N : Nat) (gp : Nat → Int32) (T g : Nat → Option Nat) (c π : Nat → Nat) (k : Nat → Nat) (M col : Nat) (z : Bool), Ps g sz c K → (∀ r, r < sz → c r = c0 (π r)) → enu k sz π → (∀ i, i < sz → k i < M) → col < 16 → mz_Ct G X y_Sorter_passOnce b_Sorter_passOnce 7 (some .int) (r_Sorter_passOnce 0 0) [.ref 5, .ref d, .int (nI col), .int (mk_b (z = true))] n (sH f a (ps0 + nI N) gp T g) (fun v n' f' => ∃ r gp T g c π, v = some (.int r) ∧ n' = n ∧ f' = sH f a (ps0 + nI (N + 1)) gp T g ∧ Ps g sz c K ∧ (∀ r, r < sz → c r = c0 (π r)) ∧ enu (fun i => pk s col z (c0 i) * M + k i) sz π) := by
    intro N gp T g c π k M col z hP hcp he hk hc ad sz' hwf hok
    obtain ⟨k5, kd, ka, k6, k7, kC⟩ := key (ps0 + nI N) gp T g
    have hct := c_Sorter_passOnce G X n _ z k5 kd ka k6 k7 hd ha ha7 hs kC hP hc ad sz' hwf hok
    refine mz_Mono hct ?_
    rintro v n' f' ⟨q, hq, rfl, rfl, rfl⟩
    have hqlt : ∀ j, j < sz → q j < 11 := fun j hj => by rw [hq]; exact pok_lt ((hC _ (hP j hj).2).2.2 col hc)
    obtain ⟨c', hc', e1⟩ := pord_ex (T := T) hP hqlt
    obtain ⟨π', e2⟩ := pass_pi (π := π) hqlt
    have e3 : ps0 + nI N + nI 1 = ps0 + nI (N + 1) := by rw [Int32.add_assoc, nI_add]
    refine ⟨_, _, _, _, c', π', rfl, rfl, by rw [← e3]; exact sH_sH f, hc', fun r hr => ?_, enu_pass (P := 11) he hk (fun r hr => by rw [hq]; show pk s col z (c r) = _; rw [hcp r hr]) hqlt e2⟩
    obtain ⟨j, hj, ej⟩ := posP_onto hqlt hr
    rw [← ej, e1 j hj, e2 j hj]
    exact hcp j hj
  intro m
  induction m with
  | zero =>
    intro col N gp T g c π hcol hN hP hcp he
    obtain ⟨k5, kd, ka, k6, k7, kC⟩ := key (ps0 + nI N) gp T g
    refine mz_go [20] 12 ?_
    simp only [mz_r0, mk_lit, mk_fin, mk_cat, mk_fit, mk_nar, mk_cls, mk_ty, mk_isr, List.mem_cons, List.not_mem_nil, or_false, or_true, false_or, true_or, Nat.reduceEqDiff, Nat.reduceAdd, Nat.reduceSub, Nat.reduceLT, Nat.reduceLeDiff, ↓reduceIte, if_true, if_false, List.getElem?_cons_zero, List.getElem?_cons_succ, List.set_cons_zero, List.set_cons_succ, List.length_cons, List.length_nil, mz_s1, mz_s2, mz_cl, true_and, and_true, false_and, and_false, List.append_nil, mk_b0, mk_b1, mk_b2, mk_bn, Value.int.injEq, Option.toList_some, Option.toList_none, List.cons_append, List.nil_append, Classical.not_not, Option.some.injEq, reduceCtorEq, ne_eq, not_true_eq_false, not_false_eq_true, false_implies, true_implies, ev_36, ev_37, ev_54, ev_41, ev_0, ev_79, ft_9_2, fn_9_2, ev_6, ev_64, mz_rl d_Sorter_sortOn_20, mz_rl d_Sorter_sortOn_22, mz_rl d_Sorter_sortOn_23, mz_rl d_Sorter_sortOn_26, mz_rl d_Sorter_sortOn_27, mz_rl d_Sorter_sortOn_28, mz_rl d_Sorter_sortOn_30, mz_rl d_Sorter_sortOn_31, mz_rl d_Sorter_sortOn_59, mz_rl d_Sorter_sortOn_60, mz_rl d_Sorter_sortOn_63, mz_rl d_Sorter_sortOn_65, mz_rl d_Sorter_sortOn_66, j_Sorter_sortOn_23, nF_9, nI_ltI (show col < 2 ^ 31 by omega) (show fr < 2 ^ 31 by omega), show col < fr by omega, k5]
    have ef : col + 1 = fr := by omega
    rw [ef] at hN he
    rw [show to - col = to + 1 - fr by omega] at he
    exact ⟨N, gp, T, g, c, π, hN, a32 _ _, rfl, hP, hcp, he⟩
  | succ m ih =>
    intro col N gp T g c π hcol hN hP hcp he
    obtain ⟨k5, kd, ka, k6, k7, kC⟩ := key (ps0 + nI N) gp T g
    have eF : mk_b (false = true) = nI 0 := by decide
    have eT : mk_b (true = true) = nI 1 := by decide
    have es : sm (wpN s c0 sz) (col + 1) = sm (wpN s c0 sz) col + wpN s c0 sz col := rfl
    have fin : ∀ N gp T g c π, N + sm (wpN s c0 sz) col = sm (wpN s c0 sz) (to + 1) → Ps g sz c K → (∀ r, r < sz → c r = c0 (π r)) → enu (fun i => keyF (s (c0 i)) col (to - col + 1)) sz π → mz_X G X 9 false b_Sorter_sortOn 6 (some .int) (r_Sorter_sortOn 0 0) (fun v n' f' => ∃ N gp T g c π, N + sm (wpN s c0 sz) fr = sm (wpN s c0 sz) (to + 1) ∧ v = some (.int (nI N)) ∧ n' = n ∧ f' = sH f a (ps0 + nI N) gp T g ∧ Ps g sz c K ∧ (∀ r, r < sz → c r = c0 (π r)) ∧ enu (fun i => keyC s fr to (c0 i)) sz π) (fun _ _ _ => False) 53 [some (.ref 5), some (.ref d), some (.int (nI fr)), some (.int (nI to)), some (.int ps0), some (.int (nI col))] [] 0 0 n (sH f a (ps0 + nI N) gp T g) := by
      intro N gp T g c π hN hP hcp he
      by_cases hc9 : col = 0
      · subst hc9
        obtain ⟨k5, kd, ka, k6, k7, kC⟩ := key (ps0 + nI N) gp T g
        refine mz_go [] 12 ?_
        simp only [mz_r0, mk_lit, mk_fin, mk_cat, mk_fit, mk_nar, mk_cls, mk_ty, mk_isr, List.mem_cons, List.not_mem_nil, or_false, or_true, false_or, true_or, Nat.reduceEqDiff, Nat.reduceAdd, Nat.reduceSub, Nat.reduceLT, Nat.reduceLeDiff, ↓reduceIte, if_true, if_false, List.getElem?_cons_zero, List.getElem?_cons_succ, List.set_cons_zero, List.set_cons_succ, List.length_cons, List.length_nil, mz_s1, mz_s2, mz_cl, true_and, and_true, false_and, and_false, List.append_nil, mk_b0, mk_b1, mk_b2, mk_bn, Value.int.injEq, Option.toList_some, Option.toList_none, List.cons_append, List.nil_append, Classical.not_not, Option.some.injEq, reduceCtorEq, ne_eq, not_true_eq_false, not_false_eq_true, false_implies, true_implies, ev_36, ev_37, ev_54, ev_41, ev_0, ev_48, ev_61, ev_79, ft_9_2, fn_9_2, ev_6, ev_64, mz_rl d_Sorter_sortOn_20, mz_rl d_Sorter_sortOn_22, mz_rl d_Sorter_sortOn_23, mz_rl d_Sorter_sortOn_26, mz_rl d_Sorter_sortOn_27, mz_rl d_Sorter_sortOn_28, mz_rl d_Sorter_sortOn_30, mz_rl d_Sorter_sortOn_31, mz_rl d_Sorter_sortOn_53, mz_rl d_Sorter_sortOn_56, mz_rl d_Sorter_sortOn_59, mz_rl d_Sorter_sortOn_60, mz_rl d_Sorter_sortOn_63, mz_rl d_Sorter_sortOn_65, mz_rl d_Sorter_sortOn_66, j_Sorter_sortOn_23, j_Sorter_sortOn_56, nF_9, mk_lt, mk_ti, mk_nti (show fr < 2 ^ 31 by omega), show (nI 0 + (-1)).toInt = -1 by decide, show ((-1 : Int) < (fr : Int)) = True by simp; omega, k5]
        have ef : fr = 0 := by omega
        subst ef
        exact ⟨N, gp, T, g, c, π, hN, a32 _ _, rfl, hP, hcp, he⟩
      · have em : nI col + (-1) = nI (col - 1) := by
          obtain ⟨k, rfl⟩ : ∃ k, col = k + 1 := ⟨col - 1, by omega⟩
          rw [pk_m1]; rfl
        refine mz_go [20] 12 ?_
        simp only [mz_r0, mk_lit, mk_fin, mk_cat, mk_fit, mk_nar, mk_cls, mk_ty, mk_isr, List.mem_cons, List.not_mem_nil, or_false, or_true, false_or, true_or, Nat.reduceEqDiff, Nat.reduceAdd, Nat.reduceSub, Nat.reduceLT, Nat.reduceLeDiff, ↓reduceIte, if_true, if_false, List.getElem?_cons_zero, List.getElem?_cons_succ, List.set_cons_zero, List.set_cons_succ, List.length_cons, List.length_nil, mz_s1, mz_s2, mz_cl, true_and, and_true, false_and, and_false, List.append_nil, mk_b0, mk_b1, mk_b2, mk_bn, Value.int.injEq, Option.toList_some, Option.toList_none, List.cons_append, List.nil_append, Classical.not_not, Option.some.injEq, reduceCtorEq, ne_eq, not_true_eq_false, not_false_eq_true, false_implies, true_implies, ev_48, ev_61, mz_rl d_Sorter_sortOn_53, mz_rl d_Sorter_sortOn_56, j_Sorter_sortOn_56, nF_9, em]
        refine ih (col - 1) N gp T g c π (by omega) (by rw [show col - 1 + 1 = col by omega]; exact hN) hP hcp ?_
        rw [show col - 1 + 1 = col by omega, show to - (col - 1) = to - col + 1 by omega]
        exact he
    refine mz_go [31] 12 ?_
    simp only [mz_r0, mk_lit, mk_fin, mk_cat, mk_fit, mk_nar, mk_cls, mk_ty, mk_isr, List.mem_cons, List.not_mem_nil, or_false, or_true, false_or, true_or, Nat.reduceEqDiff, Nat.reduceAdd, Nat.reduceSub, Nat.reduceLT, Nat.reduceLeDiff, ↓reduceIte, if_true, if_false, List.getElem?_cons_zero, List.getElem?_cons_succ, List.set_cons_zero, List.set_cons_succ, List.length_cons, List.length_nil, mz_s1, mz_s2, mz_cl, true_and, and_true, false_and, and_false, List.append_nil, mk_b0, mk_b1, mk_b2, mk_bn, Value.int.injEq, Option.toList_some, Option.toList_none, List.cons_append, List.nil_append, Classical.not_not, Option.some.injEq, reduceCtorEq, ne_eq, not_true_eq_false, not_false_eq_true, false_implies, true_implies, ev_36, ev_37, ev_54, ev_41, ev_0, ev_79, ft_9_2, fn_9_2, ev_6, ev_64, mz_rl d_Sorter_sortOn_20, mz_rl d_Sorter_sortOn_22, mz_rl d_Sorter_sortOn_23, mz_rl d_Sorter_sortOn_26, mz_rl d_Sorter_sortOn_27, mz_rl d_Sorter_sortOn_28, mz_rl d_Sorter_sortOn_30, mz_rl d_Sorter_sortOn_59, mz_rl d_Sorter_sortOn_60, mz_rl d_Sorter_sortOn_63, mz_rl d_Sorter_sortOn_65, mz_rl d_Sorter_sortOn_66, j_Sorter_sortOn_23, nF_9, nI_ltI (show col < 2 ^ 31 by omega) (show fr < 2 ^ 31 by omega), show ¬ col < fr by omega]
    rw [← eF]
    refine mz_callV (by simp only [d_Sorter_sortOn_31, Nat.reduceAdd]) g_9_53 rfl (fun _ _ h => h) (hstep N gp T g c π _ (64 ^ (to - col)) col false hP hcp he (fun i hi => keyF_lt (hsg i hi) _ _ (by omega)) (by omega)) k5 rfl rfl (by decide) (Nat.le_of_ble_eq_true rfl) rfl ?_; rintro v_ n_ f_ ⟨r1, gp1, T1, g1, c1, π1, rfl, rfl, rfl, hP1, hcp1, he1⟩
    obtain ⟨j5, jd, ja, j6, j7, jC⟩ := key (ps0 + nI (N + 1)) gp1 T1 g1
    refine mz_go [38] 12 ?_
    simp only [mz_r0, mk_lit, mk_fin, mk_cat, mk_fit, mk_nar, mk_cls, mk_ty, mk_isr, List.mem_cons, List.not_mem_nil, or_false, or_true, false_or, true_or, Nat.reduceEqDiff, Nat.reduceAdd, Nat.reduceSub, Nat.reduceLT, Nat.reduceLeDiff, ↓reduceIte, if_true, if_false, List.getElem?_cons_zero, List.getElem?_cons_succ, List.set_cons_zero, List.set_cons_succ, List.length_cons, List.length_nil, mz_s1, mz_s2, mz_cl, true_and, and_true, false_and, and_false, List.append_nil, mk_b0, mk_b1, mk_b2, mk_bn, Value.int.injEq, Option.toList_some, Option.toList_none, List.cons_append, List.nil_append, Classical.not_not, Option.some.injEq, reduceCtorEq, ne_eq, not_true_eq_false, not_false_eq_true, false_implies, true_implies, ev_33, ev_41, ev_36, mz_rl d_Sorter_sortOn_34, mz_rl d_Sorter_sortOn_35, mz_rl d_Sorter_sortOn_36, nF_9]
    refine mz_callV (by simp only [d_Sorter_sortOn_38, Nat.reduceAdd]) g_9_57 rfl (fun _ _ h => h) (c_Deck_hasZoneIn G X _ _ jd ja hs jC hP1 (show col < 16 by omega)) jd rfl rfl (by decide) (Nat.le_of_ble_eq_true rfl) rfl ?_; intro v_ n_ f_ h_; obtain ⟨rfl, hn_, hf_⟩ := h_; replace hn_ := hn_.symm; replace hf_ := hf_.symm; subst hn_; subst hf_
    have ezz := znB_perm (s := s) (col := col) he1 hcp1
    refine mz_go [49, 53] 12 ?_
    simp only [mz_r0, mk_lit, mk_fin, mk_cat, mk_fit, mk_nar, mk_cls, mk_ty, mk_isr, List.mem_cons, List.not_mem_nil, or_false, or_true, false_or, true_or, Nat.reduceEqDiff, Nat.reduceAdd, Nat.reduceSub, Nat.reduceLT, Nat.reduceLeDiff, ↓reduceIte, if_true, if_false, List.getElem?_cons_zero, List.getElem?_cons_succ, List.set_cons_zero, List.set_cons_succ, List.length_cons, List.length_nil, mz_s1, mz_s2, mz_cl, true_and, and_true, false_and, and_false, List.append_nil, mk_b0, mk_b1, mk_b2, mk_bn, Value.int.injEq, Option.toList_some, Option.toList_none, List.cons_append, List.nil_append, Classical.not_not, Option.some.injEq, reduceCtorEq, ne_eq, not_true_eq_false, not_false_eq_true, false_implies, true_implies, ev_49, ev_41, ev_36, ev_0, mz_rl d_Sorter_sortOn_41, mz_rl d_Sorter_sortOn_44, mz_rl d_Sorter_sortOn_45, mz_rl d_Sorter_sortOn_46, mz_rl d_Sorter_sortOn_48, j_Sorter_sortOn_41, nF_9]
    refine ⟨fun h => ?_, fun h => ?_⟩
    · rw [ezz] at h
      have ew : wpN s c0 sz col = 1 := if_neg h
      refine fin (N + 1) gp1 T1 g1 c1 π1 (by omega) hP1 hcp1 (enu_cong he1 (fun i hi => ?_))
      have hz : zn (s (c0 i) col) = 0 := by
        rcases Nat.eq_zero_or_pos (zn (s (c0 i) col)) with z | z
        · exact z
        · exact absurd ((znB_iff sz 0).mpr ⟨i, Nat.zero_le _, by omega, z⟩) h
      exact key_dp hz
    · rw [ezz] at h
      have ew : wpN s c0 sz col = 2 := if_pos h
      rw [← eT]
      refine mz_callV (by simp only [d_Sorter_sortOn_49, Nat.reduceAdd]) g_9_53 rfl (fun _ _ h => h) (hstep (N + 1) gp1 T1 g1 c1 π1 _ (11 * 64 ^ (to - col)) col true hP1 hcp1 he1 (fun i hi => key_lt2 (hsg i hi) (by omega)) (by omega)) j5 rfl rfl (by decide) (Nat.le_of_ble_eq_true rfl) rfl ?_; rintro v_ n_ f_ ⟨r2, gp2, T2, g2, c2, π2, rfl, rfl, rfl, hP2, hcp2, he2⟩
      refine mz_go [53] 12 ?_
      simp only [mz_r0, mk_lit, mk_fin, mk_cat, mk_fit, mk_nar, mk_cls, mk_ty, mk_isr, List.mem_cons, List.not_mem_nil, or_false, or_true, false_or, true_or, Nat.reduceEqDiff, Nat.reduceAdd, Nat.reduceSub, Nat.reduceLT, Nat.reduceLeDiff, ↓reduceIte, if_true, if_false, List.getElem?_cons_zero, List.getElem?_cons_succ, List.set_cons_zero, List.set_cons_succ, List.length_cons, List.length_nil, mz_s1, mz_s2, mz_cl, true_and, and_true, false_and, and_false, List.append_nil, mk_b0, mk_b1, mk_b2, mk_bn, Value.int.injEq, Option.toList_some, Option.toList_none, List.cons_append, List.nil_append, Classical.not_not, Option.some.injEq, reduceCtorEq, ne_eq, not_true_eq_false, not_false_eq_true, false_implies, true_implies, ev_33, mz_rl d_Sorter_sortOn_52, nF_9]
      exact fin (N + 1 + 1) gp2 T2 g2 c2 π2 (by omega) hP2 hcp2 (enu_cong he2 (fun i hi => key_zn))
/-- keys in order, as isSorted tells them -/
theorem srtB_iff {s : Nat → Nat → Nat} {fr to K : Nat} {c : Nat → Nat} (hf : fr ≤ to) (ht : to < 16) : ∀ m i, 1 ≤ i → (∀ j, j < i + m → ∀ k, k < 16 → sg (s (c j) k)) → (srtB s fr to c i m = true ↔ ∀ j, i ≤ j → j < i + m → keyC s fr to (c (j - 1)) ≤ keyC s fr to (c j)) := by
  intro m
  induction m with
  | zero => intro i h1 h2; exact ⟨fun _ j a b => absurd b (by omega), fun _ => rfl⟩
  | succ m ih =>
    intro i h1 h2
    unfold srtB
    have w := (cmpC_key (h2 i (by omega)) (h2 (i - 1) (by omega)) hf ht).1
    by_cases h : cmpC s fr to (c i) (c (i - 1)) < 0
    · rw [if_pos h]
      refine ⟨fun z => (by cases z), fun z => ?_⟩
      have := z i (Nat.le_refl _) (by omega)
      have := w.mp h
      omega
    · rw [if_neg h, ih (i + 1) (by omega) (fun j hj => h2 j (by omega))]
      have hn : ¬ keyC s fr to (c i) < keyC s fr to (c (i - 1)) := fun z => h (w.mpr z)
      refine ⟨fun z j a b => ?_, fun z j a b => z j (by omega) (by omega)⟩
      by_cases e : j = i
      · subst e; omega
      · exact z j (by omega) (by omega)
theorem srtB_enu {s : Nat → Nat → Nat} {fr to sz : Nat} {c : Nat → Nat} (hf : fr ≤ to) (ht : to < 16) (hs : ∀ j, j < sz → ∀ k, k < 16 → sg (s (c j) k)) (h : srtB s fr to c 1 (sz - 1) = true) : enu (fun i => keyC s fr to (c i)) sz (fun i => i) := by
  refine enu_id (fun i hi => ?_)
  have := (srtB_iff (K := 0) hf ht (sz - 1) 1 (Nat.le_refl _) (fun j hj => hs j (by omega))).mp h (i + 1) (by omega) (by omega)
  exact this
theorem c_Sorter_sortOn (G : mz_G) (X : mz_E) (n : Nat) (f : mz_H) {d a sz fr to K : Nat} {ps : Int32} {g T : Nat → Option Nat} {gp : Nat → Int32} {s : Nat → Nat → Nat} {c : Nat → Nat} (h0 : f 5 = .inr (9, [.ref 6, .ref 7, .int ps])) (h1 : f d = .inr (4, [.ref a, .int (nI sz)])) (h2 : f a = aQ 6 200 g) (h6 : f 6 = aI 11 gp) (h7 : f 7 = aQ 6 200 T) (hd : d < 172) (ha : a < 172) (ha7 : a ≠ 7) (hs : sz ≤ 200) (hC : Cd f K s) (hP : Ps g sz c K) (hft : fr ≤ to) (ht : to < 16) :
    mz_Ct G X y_Sorter_sortOn b_Sorter_sortOn 6 (some .int) (r_Sorter_sortOn 0 0) [.ref 5, .ref d, .int (nI fr), .int (nI to)] n f (fun v n' f' => ∃ N gp T g c' π, N = (if srtB s fr to c 1 (sz - 1) = true then 0 else sm (wpN s c sz) (to + 1) - sm (wpN s c sz) fr) ∧ v = some (.int (nI N)) ∧ n' = n ∧ f' = sH f a (ps + nI N) gp T g ∧ Ps g sz c' K ∧ (∀ r, r < sz → c' r = c (π r)) ∧ enu (fun i => keyC s fr to (c i)) sz π) := by
  have ha6 : a ≠ 6 := by rintro rfl; rw [h2] at h6; cases h6
  have ha5 : a ≠ 5 := by rintro rfl; rw [h0] at h2; cases h2
  have hd6 : d ≠ 6 := by rintro rfl; rw [h1] at h6; cases h6
  have hd7 : d ≠ 7 := by rintro rfl; rw [h1] at h7; cases h7
  have hd5 : d ≠ 5 := by rintro rfl; rw [h1] at h0; cases h0
  have hda : d ≠ a := by rintro rfl; rw [h1] at h2; cases h2
  refine mk_Ct 9 false [some (.ref 5), some (.ref d), some (.int (nI fr)), some (.int (nI to)), none, none] (by decide) rfl (by decide) (Nat.le_of_ble_eq_true rfl) rfl ?_
  refine mz_go [3] 12 ?_
  simp only [mz_r0, mk_lit, mk_fin, mk_cat, mk_fit, mk_nar, mk_cls, mk_ty, mk_isr, List.mem_cons, List.not_mem_nil, or_false, or_true, false_or, true_or, Nat.reduceEqDiff, Nat.reduceAdd, Nat.reduceSub, Nat.reduceLT, Nat.reduceLeDiff, ↓reduceIte, if_true, if_false, List.getElem?_cons_zero, List.getElem?_cons_succ, List.set_cons_zero, List.set_cons_succ, List.length_cons, List.length_nil, mz_s1, mz_s2, mz_cl, true_and, and_true, false_and, and_false, List.append_nil, mk_b0, mk_b1, mk_b2, mk_bn, Value.int.injEq, Option.toList_some, Option.toList_none, List.cons_append, List.nil_append, Classical.not_not, Option.some.injEq, reduceCtorEq, ne_eq, not_true_eq_false, not_false_eq_true, false_implies, true_implies, ev_41, ev_37, mz_rl d_Sorter_sortOn_0, mz_rl d_Sorter_sortOn_1, mz_rl d_Sorter_sortOn_2, nF_9]
  refine mz_callV (by simp only [d_Sorter_sortOn_3, Nat.reduceAdd]) g_9_49 rfl (fun _ _ h => h) (c_Deck_isSorted G X n f h1 h2 hs hC hP hft ht) h1 rfl rfl (by decide) (Nat.le_of_ble_eq_true rfl) rfl ?_; intro v_ n_ f_ h_; obtain ⟨rfl, hn_, hf_⟩ := h_; replace hn_ := hn_.symm; replace hf_ := hf_.symm; subst hn_; subst hf_
  refine mz_go [20] 12 ?_
  simp only [mz_r0, mk_lit, mk_fin, mk_cat, mk_fit, mk_nar, mk_cls, mk_ty, mk_isr, List.mem_cons, List.not_mem_nil, or_false, or_true, false_or, true_or, Nat.reduceEqDiff, Nat.reduceAdd, Nat.reduceSub, Nat.reduceLT, Nat.reduceLeDiff, ↓reduceIte, if_true, if_false, List.getElem?_cons_zero, List.getElem?_cons_succ, List.set_cons_zero, List.set_cons_succ, List.length_cons, List.length_nil, mz_s1, mz_s2, mz_cl, true_and, and_true, false_and, and_false, List.append_nil, mk_b0, mk_b1, mk_b2, mk_bn, Value.int.injEq, Option.toList_some, Option.toList_none, List.cons_append, List.nil_append, Classical.not_not, Option.some.injEq, reduceCtorEq, ne_eq, not_true_eq_false, not_false_eq_true, false_implies, true_implies, ev_49, ev_0, ev_64, ev_41, ev_79, ft_9_2, fn_9_2, ev_42, ev_37, mz_rl d_Sorter_sortOn_6, mz_rl d_Sorter_sortOn_9, mz_rl d_Sorter_sortOn_10, mz_rl d_Sorter_sortOn_11, mz_rl d_Sorter_sortOn_12, mz_rl d_Sorter_sortOn_15, mz_rl d_Sorter_sortOn_17, mz_rl d_Sorter_sortOn_18, j_Sorter_sortOn_6, nF_9, h0]
  refine ⟨fun h => ?_, fun h => ?_⟩
  · have := l_Sorter_sortOn G X n f (s := s) (ps0 := ps) (c0 := c) h1 hd ha ha5 ha6 ha7 hda hd5 hd6 hd7 hs hC (fun i hi => (hP i hi).2) hft ht (to + 1 - fr) to 0 gp T g c (fun i => i) (by omega) (Nat.zero_add _) hP (fun _ _ => rfl) (by
      rw [Nat.sub_self]; exact enu_id (fun i _ => Nat.le_refl _))
    rw [show ps + nI 0 = ps from Int32.add_zero ps, sH_id h0 h6 h7 h2] at this
    refine mz_mono ?_ this
    rintro v n' f' ⟨N, gp', T', g', c', π, eN, q1, q2, q3, q4, q5, q6⟩
    exact ⟨N, gp', T', g', c', π, by rw [if_neg h]; omega, q1, q2, q3, q4, q5, q6⟩
  · refine ⟨0, gp, T, g, c, fun i => i, by rw [if_pos h], rfl, ?_, hP, fun _ _ => rfl, srtB_enu hft ht (fun j hj => (hC _ (hP j hj).2).2.2) h⟩
    rw [show ps + nI 0 = ps from Int32.add_zero ps]
    exact (sH_id h0 h6 h7 h2).symm
end
section
def Bd (f : mz_H) (b w : Nat) (F T L : Nat → Nat) : Prop := f b = .inr (1, [.ref (b + 1), .ref (b + 2), .ref (b + 3), .int (nI w)]) ∧ f (b + 1) = aI 40 (fun j => nI (F j)) ∧ f (b + 2) = aI 40 (fun j => nI (T j)) ∧ f (b + 3) = aI 4 (fun j => nI (L j))
def okF (x : Nat) : Prop := x < 26 ∨ 32 ≤ x ∧ x < 56
def okT (x : Nat) : Prop := x < 16 ∨ 32 ≤ x ∧ x < 56 ∨ 64 ≤ x ∧ x < 88 ∨ 96 ≤ x ∧ x < 100
def BdOk (w : Nat) (F T L : Nat → Nat) : Prop := w ≤ 40 ∧ (∀ j, j < w → okF (F j) ∧ okT (T j)) ∧ ∀ j, j < 4 → L j < 4
theorem Bd_u {f : mz_H} {b w : Nat} {F T L : Nat → Nat} (h : Bd f b w F T L) {a : Nat} (ha : a < b ∨ b + 3 < a) (x : mz_C) : Bd (mz_u f a x) b w F T L := by
  unfold Bd
  rw [mz_u_n (by omega), mz_u_n (by omega), mz_u_n (by omega), mz_u_n (by omega)]
  exact h
theorem okF_lt {x : Nat} (h : okF x) : x < 56 := by unfold okF at h; omega
theorem okT_lt {x : Nat} (h : okT x) : x < 100 := by unfold okT at h; omega
def hwB (F T : Nat → Nat) (x y : Nat) : Nat → Nat → Bool
  | _, 0 => false
  | i, m + 1 => if F i = x ∧ T i = y then true else hwB F T x y (i + 1) m
theorem l_Board_hasWire (G : mz_G) (X : mz_E) (n : Nat) (f : mz_H) {b w x y : Nat} {F T L : Nat → Nat} (h : Bd f b w F T L) (hok : BdOk w F T L) (hx : x < 2 ^ 31) (hy : y < 2 ^ 31) (R : Bool) :
    ∀ m i, i + m = w → hwB F T x y i m = R → mz_X G X 1 false b_Board_hasWire 4 (some .boolean) (r_Board_hasWire 0 0) (fun v n' f' => v = some (.int (mk_b (R = true))) ∧ n' = n ∧ f' = f) (fun _ _ _ => False) 2 [some (.ref b), some (.int (nI x)), some (.int (nI y)), some (.int (nI i))] [] 0 0 n f := by
  have hw := hok.1
  intro m
  induction m with
  | zero =>
    intro i hi hR
    refine mz_go [2] 12 ?_
    simp only [mz_r0, mk_lit, mk_fin, mk_cat, mk_fit, mk_nar, mk_cls, mk_ty, mk_isr, List.mem_cons, List.not_mem_nil, or_false, or_true, false_or, true_or, Nat.reduceEqDiff, Nat.reduceAdd, Nat.reduceSub, Nat.reduceLT, Nat.reduceLeDiff, ↓reduceIte, if_true, if_false, List.getElem?_cons_zero, List.getElem?_cons_succ, List.set_cons_zero, List.set_cons_succ, List.length_cons, List.length_nil, mz_s1, mz_s2, mz_cl, true_and, and_true, false_and, and_false, List.append_nil, mk_b0, mk_b1, mk_b2, mk_bn, Value.int.injEq, Option.toList_some, Option.toList_none, List.cons_append, List.nil_append, Classical.not_not, Option.some.injEq, reduceCtorEq, ne_eq, not_true_eq_false, not_false_eq_true, false_implies, true_implies, ev_37, ev_41, ev_79, ft_1_3, fn_1_3, ev_56, ft_1_0, fn_1_0, ev_68, ev_52, ft_1_1, fn_1_1, ev_0, ev_64, ev_48, ev_61, mz_rl d_Board_hasWire_2, mz_rl d_Board_hasWire_3, mz_rl d_Board_hasWire_4, mz_rl d_Board_hasWire_7, mz_rl d_Board_hasWire_10, mz_rl d_Board_hasWire_11, mz_rl d_Board_hasWire_14, mz_rl d_Board_hasWire_15, mz_rl d_Board_hasWire_16, mz_rl d_Board_hasWire_17, mz_rl d_Board_hasWire_20, mz_rl d_Board_hasWire_21, mz_rl d_Board_hasWire_24, mz_rl d_Board_hasWire_25, mz_rl d_Board_hasWire_26, mz_rl d_Board_hasWire_27, mz_rl d_Board_hasWire_30, mz_rl d_Board_hasWire_31, mz_rl d_Board_hasWire_32, mz_rl d_Board_hasWire_35, mz_rl d_Board_hasWire_38, mz_rl d_Board_hasWire_39, j_Board_hasWire_7, j_Board_hasWire_17, j_Board_hasWire_27, j_Board_hasWire_35, nF_1, h.1, nI_leI (show w < 2 ^ 31 by omega) (show i < 2 ^ 31 by omega), show w ≤ i by omega]
    rw [← hR]; simp [hwB]
  | succ m ih =>
    intro i hi hR
    have e1 := okF_lt (hok.2.1 i (by omega)).1
    have e2 := okT_lt (hok.2.1 i (by omega)).2
    refine mz_go [2] 20 ?_
    simp only [mz_r0, mk_lit, mk_fin, mk_cat, mk_fit, mk_nar, mk_cls, mk_ty, mk_isr, List.mem_cons, List.not_mem_nil, or_false, or_true, false_or, true_or, Nat.reduceEqDiff, Nat.reduceAdd, Nat.reduceSub, Nat.reduceLT, Nat.reduceLeDiff, ↓reduceIte, if_true, if_false, List.getElem?_cons_zero, List.getElem?_cons_succ, List.set_cons_zero, List.set_cons_succ, List.length_cons, List.length_nil, mz_s1, mz_s2, mz_cl, true_and, and_true, false_and, and_false, List.append_nil, mk_b0, mk_b1, mk_b2, mk_bn, Value.int.injEq, Option.toList_some, Option.toList_none, List.cons_append, List.nil_append, Classical.not_not, Option.some.injEq, reduceCtorEq, ne_eq, not_true_eq_false, not_false_eq_true, false_implies, true_implies, ev_37, ev_41, ev_79, ft_1_3, fn_1_3, ev_56, ft_1_0, fn_1_0, ev_68, ev_52, ft_1_1, fn_1_1, ev_0, ev_64, ev_48, ev_61, mz_rl d_Board_hasWire_2, mz_rl d_Board_hasWire_3, mz_rl d_Board_hasWire_4, mz_rl d_Board_hasWire_7, mz_rl d_Board_hasWire_10, mz_rl d_Board_hasWire_11, mz_rl d_Board_hasWire_14, mz_rl d_Board_hasWire_15, mz_rl d_Board_hasWire_16, mz_rl d_Board_hasWire_17, mz_rl d_Board_hasWire_20, mz_rl d_Board_hasWire_21, mz_rl d_Board_hasWire_24, mz_rl d_Board_hasWire_25, mz_rl d_Board_hasWire_26, mz_rl d_Board_hasWire_27, mz_rl d_Board_hasWire_30, mz_rl d_Board_hasWire_31, mz_rl d_Board_hasWire_32, mz_rl d_Board_hasWire_35, mz_rl d_Board_hasWire_38, mz_rl d_Board_hasWire_39, j_Board_hasWire_7, j_Board_hasWire_17, j_Board_hasWire_27, j_Board_hasWire_35, nF_1, h.1, h.2.1, h.2.2.1, nI_leI (show w < 2 ^ 31 by omega) (show i < 2 ^ 31 by omega), show ¬ w ≤ i by omega, vp_in_nI (show i < 40 by omega) (show 40 < 2 ^ 31 by decide), nI_clamp (show i < 2 ^ 31 by omega), nI_eq (show F i < 2 ^ 31 by omega) hx, nI_eq (show T i < 2 ^ 31 by omega) hy, nI_add]
    unfold hwB at hR
    refine ⟨fun h1 => ?_, fun h1 => ⟨fun h2 => ?_, fun h2 => ?_⟩⟩
    · rw [if_neg (fun z => h1 z.1)] at hR
      exact ih (i + 1) (by omega) hR
    · rw [if_neg (fun z => h2 z.2)] at hR
      exact ih (i + 1) (by omega) hR
    · rw [if_pos ⟨h1, h2⟩] at hR
      exact hR.symm
theorem c_Board_hasWire (G : mz_G) (X : mz_E) (n : Nat) (f : mz_H) {b w x y : Nat} {F T L : Nat → Nat} (h : Bd f b w F T L) (hok : BdOk w F T L) (hx : x < 2 ^ 31) (hy : y < 2 ^ 31) :
    mz_Ct G X y_Board_hasWire b_Board_hasWire 4 (some .boolean) (r_Board_hasWire 0 0) [.ref b, .int (nI x), .int (nI y)] n f (fun v n' f' => v = some (.int (mk_b (hwB F T x y 0 w = true))) ∧ n' = n ∧ f' = f) := by
  refine mk_Ct 1 false [some (.ref b), some (.int (nI x)), some (.int (nI y)), none] (by decide) rfl (by decide) (Nat.le_of_ble_eq_true rfl) rfl ?_
  refine mz_go [2] 6 ?_
  simp only [mz_r0, mk_lit, mk_fin, mk_cat, mk_fit, mk_nar, mk_cls, mk_ty, mk_isr, List.mem_cons, List.not_mem_nil, or_false, or_true, false_or, true_or, Nat.reduceEqDiff, Nat.reduceAdd, Nat.reduceSub, Nat.reduceLT, Nat.reduceLeDiff, ↓reduceIte, if_true, if_false, List.getElem?_cons_zero, List.getElem?_cons_succ, List.set_cons_zero, List.set_cons_succ, List.length_cons, List.length_nil, mz_s1, mz_s2, mz_cl, true_and, and_true, false_and, and_false, List.append_nil, mk_b0, mk_b1, mk_b2, mk_bn, Value.int.injEq, Option.toList_some, Option.toList_none, List.cons_append, List.nil_append, Classical.not_not, Option.some.injEq, reduceCtorEq, ne_eq, not_true_eq_false, not_false_eq_true, false_implies, true_implies, ev_0, ev_43, mz_rl d_Board_hasWire_0, mz_rl d_Board_hasWire_1, nF_1]
  exact l_Board_hasWire G X n f h hok hx hy _ w 0 (by omega) rfl
theorem upd_nI (A : Nat → Nat) (k x : Nat) : upd (fun j => nI (A j)) k (nI x) = fun j => nI (va_up A k x j) := by
  funext j; unfold upd va_up; split <;> rfl
theorem nI_cpy (A B : Nat → Nat) (k : Nat) : cpy (fun j => nI (A j)) (fun j => nI (B j)) k = fun j => nI (cpy A B k j) := by
  funext j; unfold cpy; split <;> rfl
/-- a board's cells with one wire more -/
def bdAdd (f : mz_H) (b w x y : Nat) (F T : Nat → Nat) : mz_H := mz_u (mz_u (mz_u f (b + 1) (aI 40 (fun j => nI (va_up F w x j)))) (b + 2) (aI 40 (fun j => nI (va_up T w y j)))) b (.inr (1, [.ref (b + 1), .ref (b + 2), .ref (b + 3), .int (nI (w + 1))]))
theorem c_Board_addWire (G : mz_G) (X : mz_E) (n : Nat) (f : mz_H) {b w x y : Nat} {F T L : Nat → Nat} (h : Bd f b w F T L) (hok : BdOk w F T L) (hx : x < 2 ^ 31) (hy : y < 2 ^ 31) :
    mz_Ct G X y_Board_addWire b_Board_addWire 3 (some .boolean) (r_Board_addWire 0 0) [.ref b, .int (nI x), .int (nI y)] n f (fun v n' f' => v = some (.int (mk_b (w < 40 ∧ hwB F T x y 0 w = false))) ∧ n' = n ∧ f' = if w < 40 ∧ hwB F T x y 0 w = false then bdAdd f b w x y F T else f) := by
  have hw := hok.1
  refine mk_Ct 1 false [some (.ref b), some (.int (nI x)), some (.int (nI y))] (by decide) rfl (by decide) (Nat.le_of_ble_eq_true rfl) rfl ?_
  refine mz_go [12] 12 ?_
  simp only [mz_r0, mk_lit, mk_fin, mk_cat, mk_fit, mk_nar, mk_cls, mk_ty, mk_isr, List.mem_cons, List.not_mem_nil, or_false, or_true, false_or, true_or, Nat.reduceEqDiff, Nat.reduceAdd, Nat.reduceSub, Nat.reduceLT, Nat.reduceLeDiff, ↓reduceIte, if_true, if_false, List.getElem?_cons_zero, List.getElem?_cons_succ, List.set_cons_zero, List.set_cons_succ, List.length_cons, List.length_nil, mz_s1, mz_s2, mz_cl, true_and, and_true, false_and, and_false, List.append_nil, mk_b0, mk_b1, mk_b2, mk_bn, Value.int.injEq, Option.toList_some, Option.toList_none, List.cons_append, List.nil_append, Classical.not_not, Option.some.injEq, reduceCtorEq, ne_eq, not_true_eq_false, not_false_eq_true, false_implies, true_implies, ev_41, ev_79, ft_1_3, fn_1_3, ev_1, ev_56, ev_37, ev_0, ev_64, mz_rl d_Board_addWire_0, mz_rl d_Board_addWire_1, mz_rl d_Board_addWire_4, mz_rl d_Board_addWire_6, mz_rl d_Board_addWire_9, mz_rl d_Board_addWire_10, mz_rl d_Board_addWire_11, mz_rl d_Board_addWire_18, mz_rl d_Board_addWire_19, j_Board_addWire_6, nF_1, h.1, nI_leI (show 40 < 2 ^ 31 by decide) (show w < 2 ^ 31 by omega)]
  refine ⟨fun h1 => ?_, fun h1 => ?_⟩
  · rw [if_neg (by omega)]; exact ⟨by omega, rfl⟩
  refine mz_callV (by simp only [d_Board_addWire_12, Nat.reduceAdd]) g_1_31 rfl (fun _ _ h => h) (c_Board_hasWire G X n f h hok hx hy) h.1 rfl rfl (by decide) (Nat.le_of_ble_eq_true rfl) rfl ?_; intro v_ n_ f_ h_; obtain ⟨rfl, hn_, hf_⟩ := h_; replace hn_ := hn_.symm; replace hf_ := hf_.symm; subst hn_; subst hf_
  refine mz_go [] 30 ?_
  simp only [mz_r0, mk_lit, mk_fin, mk_cat, mk_fit, mk_nar, mk_cls, mk_ty, mk_isr, List.mem_cons, List.not_mem_nil, or_false, or_true, false_or, true_or, Nat.reduceEqDiff, Nat.reduceAdd, Nat.reduceSub, Nat.reduceLT, Nat.reduceLeDiff, ↓reduceIte, if_true, if_false, List.getElem?_cons_zero, List.getElem?_cons_succ, List.set_cons_zero, List.set_cons_succ, List.length_cons, List.length_nil, mz_s1, mz_s2, mz_cl, true_and, and_true, false_and, and_false, List.append_nil, mk_b0, mk_b1, mk_b2, mk_bn, Value.int.injEq, Option.toList_some, Option.toList_none, List.cons_append, List.nil_append, Classical.not_not, Option.some.injEq, reduceCtorEq, ne_eq, not_true_eq_false, not_false_eq_true, false_implies, true_implies, ev_49, ev_0, ev_64, ev_41, ev_79, ft_1_0, fn_1_0, ft_1_3, fn_1_3, ev_37, ev_72, ft_1_1, fn_1_1, ev_32, ev_5, ev_80, mz_rl d_Board_addWire_15, mz_rl d_Board_addWire_18, mz_rl d_Board_addWire_19, mz_rl d_Board_addWire_20, mz_rl d_Board_addWire_21, mz_rl d_Board_addWire_24, mz_rl d_Board_addWire_25, mz_rl d_Board_addWire_28, mz_rl d_Board_addWire_29, mz_rl d_Board_addWire_30, mz_rl d_Board_addWire_31, mz_rl d_Board_addWire_34, mz_rl d_Board_addWire_35, mz_rl d_Board_addWire_38, mz_rl d_Board_addWire_39, mz_rl d_Board_addWire_40, mz_rl d_Board_addWire_41, mz_rl d_Board_addWire_42, mz_rl d_Board_addWire_45, mz_rl d_Board_addWire_46, mz_rl d_Board_addWire_47, mz_rl d_Board_addWire_50, mz_rl d_Board_addWire_51, j_Board_addWire_15, nF_1, h.1, h.2.1, h.2.2.1, vp_in_nI (show w < 40 by omega) (show 40 < 2 ^ 31 by decide), nI_clamp (show w < 2 ^ 31 by omega), nI_add, mz_u_n (show b ≠ b + 1 by omega), mz_u_n (show b ≠ b + 2 by omega), mz_u_n (show b + 2 ≠ b + 1 by omega), upd_nI]
  refine ⟨fun h2 => ?_, fun h2 => ?_⟩
  · have h3 : hwB F T x y 0 w = false := by cases q : hwB F T x y 0 w; rfl; exact absurd q h2
    rw [if_pos ⟨by omega, h3⟩]
    exact ⟨⟨by omega, h3⟩, rfl⟩
  · rw [if_neg (by rw [h2]; simp)]
    exact ⟨by rw [h2]; simp, rfl⟩
/-- a board stripped -/
def bdBare (f : mz_H) (b : Nat) (L : Nat → Nat) : mz_H := mz_u (mz_u f b (.inr (1, [.ref (b + 1), .ref (b + 2), .ref (b + 3), .int (nI 0)]))) (b + 3) (aI 4 (fun j => nI (cpy (fun _ => 3) L 4 j)))
theorem c_Board_makeBare (G : mz_G) (X : mz_E) (n : Nat) (f : mz_H) {b w : Nat} {F T L : Nat → Nat} (h : Bd f b w F T L) :
    mz_Ct G X y_Board_makeBare b_Board_makeBare 2 (some .int) (r_Board_makeBare 0 0) [.ref b] n f (fun v n' f' => v = some (.int (nI w)) ∧ n' = n ∧ f' = bdBare f b L) := by
  refine mk_Ct 1 false [some (.ref b), none] (by decide) rfl (by decide) (Nat.le_of_ble_eq_true rfl) rfl ?_
  refine mz_go [15] 12 ?_
  simp only [mz_r0, mk_lit, mk_fin, mk_cat, mk_fit, mk_nar, mk_cls, mk_ty, mk_isr, List.mem_cons, List.not_mem_nil, or_false, or_true, false_or, true_or, Nat.reduceEqDiff, Nat.reduceAdd, Nat.reduceSub, Nat.reduceLT, Nat.reduceLeDiff, ↓reduceIte, if_true, if_false, List.getElem?_cons_zero, List.getElem?_cons_succ, List.set_cons_zero, List.set_cons_succ, List.length_cons, List.length_nil, mz_s1, mz_s2, mz_cl, true_and, and_true, false_and, and_false, List.append_nil, mk_b0, mk_b1, mk_b2, mk_bn, Value.int.injEq, Option.toList_some, Option.toList_none, List.cons_append, List.nil_append, Classical.not_not, Option.some.injEq, reduceCtorEq, ne_eq, not_true_eq_false, not_false_eq_true, false_implies, true_implies, ev_41, ev_79, ft_1_3, fn_1_3, ev_43, ev_0, ev_80, ft_1_2, fn_1_2, mz_rl d_Board_makeBare_0, mz_rl d_Board_makeBare_1, mz_rl d_Board_makeBare_4, mz_rl d_Board_makeBare_5, mz_rl d_Board_makeBare_6, mz_rl d_Board_makeBare_7, mz_rl d_Board_makeBare_10, mz_rl d_Board_makeBare_11, mz_rl d_Board_makeBare_14, nF_1, h.1, mz_u_s]
  refine mz_callS (by simp only [d_Board_makeBare_15, Nat.reduceAdd]) g_1_21 rfl (fun _ _ h => h) (c_Arrays_fill G X n _ (nI 3) (show _ = aI 4 (fun j => nI (L j)) by rw [mz_u_n (by omega)]; exact h.2.2.2) (by decide)) (by decide) (Nat.le_of_ble_eq_true rfl) rfl ?_; intro v_ n_ f_ h_; obtain ⟨rfl, hn_, hf_⟩ := h_; replace hn_ := hn_.symm; replace hf_ := hf_.symm; subst hn_; subst hf_
  refine mz_go [] 12 ?_
  simp only [mz_r0, mk_lit, mk_fin, mk_cat, mk_fit, mk_nar, mk_cls, mk_ty, mk_isr, List.mem_cons, List.not_mem_nil, or_false, or_true, false_or, true_or, Nat.reduceEqDiff, Nat.reduceAdd, Nat.reduceSub, Nat.reduceLT, Nat.reduceLeDiff, ↓reduceIte, if_true, if_false, List.getElem?_cons_zero, List.getElem?_cons_succ, List.set_cons_zero, List.set_cons_succ, List.length_cons, List.length_nil, mz_s1, mz_s2, mz_cl, true_and, and_true, false_and, and_false, List.append_nil, mk_b0, mk_b1, mk_b2, mk_bn, Value.int.injEq, Option.toList_some, Option.toList_none, List.cons_append, List.nil_append, Classical.not_not, Option.some.injEq, reduceCtorEq, ne_eq, not_true_eq_false, not_false_eq_true, false_implies, true_implies, ev_37, ev_64, mz_rl d_Board_makeBare_18, mz_rl d_Board_makeBare_19, nF_1]
  have e := nI_cpy (fun _ => 3) L 4
  rw [e]; rfl
theorem c_Board_isFromExit (G : mz_G) (X : mz_E) (n : Nat) (f : mz_H) {b w i : Nat} {F T L : Nat → Nat} (h : Bd f b w F T L) (hok : BdOk w F T L) (hi : i < w) :
    mz_Ct G X y_Board_isFromExit b_Board_isFromExit 2 (some .boolean) (r_Board_isFromExit 0 0) [.ref b, .int (nI i)] n f (fun v n' f' => v = some (.int (mk_b (32 ≤ F i))) ∧ n' = n ∧ f' = f) := by
  have hw := hok.1
  have e1 := okF_lt (hok.2.1 i hi).1
  refine mk_Ct 1 false [some (.ref b), some (.int (nI i))] (by decide) rfl (by decide) (Nat.le_of_ble_eq_true rfl) rfl ?_
  refine mz_go [] 12 ?_
  simp only [mz_r0, mk_lit, mk_fin, mk_cat, mk_fit, mk_nar, mk_cls, mk_ty, mk_isr, List.mem_cons, List.not_mem_nil, or_false, or_true, false_or, true_or, Nat.reduceEqDiff, Nat.reduceAdd, Nat.reduceSub, Nat.reduceLT, Nat.reduceLeDiff, ↓reduceIte, if_true, if_false, List.getElem?_cons_zero, List.getElem?_cons_succ, List.set_cons_zero, List.set_cons_succ, List.length_cons, List.length_nil, mz_s1, mz_s2, mz_cl, true_and, and_true, false_and, and_false, List.append_nil, mk_b0, mk_b1, mk_b2, mk_bn, Value.int.injEq, Option.toList_some, Option.toList_none, List.cons_append, List.nil_append, Classical.not_not, Option.some.injEq, reduceCtorEq, ne_eq, not_true_eq_false, not_false_eq_true, false_implies, true_implies, ev_41, ev_79, ft_1_0, fn_1_0, ev_37, ev_68, ev_1, ev_54, ev_0, ev_61, ev_64, mz_rl d_Board_isFromExit_0, mz_rl d_Board_isFromExit_1, mz_rl d_Board_isFromExit_4, mz_rl d_Board_isFromExit_5, mz_rl d_Board_isFromExit_6, mz_rl d_Board_isFromExit_8, mz_rl d_Board_isFromExit_11, mz_rl d_Board_isFromExit_12, mz_rl d_Board_isFromExit_15, mz_rl d_Board_isFromExit_16, j_Board_isFromExit_8, j_Board_isFromExit_12, nF_1, h.1, h.2.1, vp_in_nI (show i < 40 by omega) (show 40 < 2 ^ 31 by decide), nI_clamp (show i < 2 ^ 31 by omega), nI_ltI (show F i < 2 ^ 31 by omega) (show 32 < 2 ^ 31 by decide)]
  omega
/-- what a wire brings from a card -/
def sgF (F : Nat → Nat) (s : Nat → Nat) (i : Nat) : Nat := if F i < 16 then s (F i) else 48 + F i - 16
theorem sgF_ok {F s : Nat → Nat} {i : Nat} (h : okF (F i)) (h2 : F i < 32) (hs : ∀ j, j < 16 → sg (s j)) : sg (sgF F s i) := by
  unfold sgF
  split
  · exact hs _ (by assumption)
  · unfold okF at h; unfold sg; omega
theorem c_Board_signFrom (G : mz_G) (X : mz_E) (n : Nat) (f : mz_H) {b w i x K : Nat} {F T L : Nat → Nat} {s : Nat → Nat → Nat} (h : Bd f b w F T L) (hok : BdOk w F T L) (hi : i < w) (hC : Cd f K s) (hx : x < K) :
    mz_Ct G X y_Board_signFrom b_Board_signFrom 3 (some .int) (r_Board_signFrom 0 0) [.ref b, .int (nI i), .ref (172 + 2 * x)] n f (fun v n' f' => v = some (.int (nI (sgF F (s x) i))) ∧ n' = n ∧ f' = f) := by
  have hw := hok.1
  have e1 := okF_lt (hok.2.1 i hi).1
  have q := hC x hx
  refine mk_Ct 1 false [some (.ref b), some (.int (nI i)), some (.ref (172 + 2 * x))] (by decide) rfl (by decide) (Nat.le_of_ble_eq_true rfl) rfl ?_
  refine mz_go [] 30 ?_
  by_cases hF : F i < 16
  · simp only [mz_r0, mk_lit, mk_fin, mk_cat, mk_fit, mk_nar, mk_cls, mk_ty, mk_isr, List.mem_cons, List.not_mem_nil, or_false, or_true, false_or, true_or, Nat.reduceEqDiff, Nat.reduceAdd, Nat.reduceSub, Nat.reduceLT, Nat.reduceLeDiff, ↓reduceIte, if_true, if_false, List.getElem?_cons_zero, List.getElem?_cons_succ, List.set_cons_zero, List.set_cons_succ, List.length_cons, List.length_nil, mz_s1, mz_s2, mz_cl, true_and, and_true, false_and, and_false, List.append_nil, mk_b0, mk_b1, mk_b2, mk_bn, Value.int.injEq, Option.toList_some, Option.toList_none, List.cons_append, List.nil_append, Classical.not_not, Option.some.injEq, reduceCtorEq, ne_eq, not_true_eq_false, not_false_eq_true, false_implies, true_implies, ev_41, ev_79, ft_1_0, fn_1_0, ev_37, ev_68, ev_1, ev_56, ft_2_0, fn_2_0, ev_61, ev_5, ev_6, ev_64, mz_rl d_Board_signFrom_0, mz_rl d_Board_signFrom_1, mz_rl d_Board_signFrom_4, mz_rl d_Board_signFrom_5, mz_rl d_Board_signFrom_6, mz_rl d_Board_signFrom_8, mz_rl d_Board_signFrom_11, mz_rl d_Board_signFrom_12, mz_rl d_Board_signFrom_15, mz_rl d_Board_signFrom_16, mz_rl d_Board_signFrom_19, mz_rl d_Board_signFrom_20, mz_rl d_Board_signFrom_21, mz_rl d_Board_signFrom_22, mz_rl d_Board_signFrom_25, mz_rl d_Board_signFrom_27, mz_rl d_Board_signFrom_28, mz_rl d_Board_signFrom_31, mz_rl d_Board_signFrom_32, mz_rl d_Board_signFrom_33, mz_rl d_Board_signFrom_34, mz_rl d_Board_signFrom_36, mz_rl d_Board_signFrom_37, j_Board_signFrom_8, j_Board_signFrom_22, nF_1, h.1, h.2.1, q.1, q.2.1, vp_in_nI (show i < 40 by omega) (show 40 < 2 ^ 31 by decide), nI_clamp (show i < 2 ^ 31 by omega), nI_leI (show 16 < 2 ^ 31 by decide) (show F i < 2 ^ 31 by omega), show ¬ 16 ≤ F i by omega, vp_in_nI hF (show 16 < 2 ^ 31 by decide), nI_clamp (show F i < 2 ^ 31 by omega), sgF, hF]
  · simp only [mz_run, ev_0, ev_1, ev_2, ev_3, ev_4, ev_5, ev_6, ev_7, ev_8, ev_9, ev_10, ev_11, ev_12, ev_13, ev_14, ev_15, ev_16, ev_17, ev_18, ev_19, ev_20, ev_21, ev_22, ev_23, ev_24, ev_25, ev_26, ev_27, ev_28, ev_29, ev_30, ev_31, ev_32, ev_33, ev_34, ev_35, ev_36, ev_37, ev_38, ev_39, ev_40, ev_41, ev_42, ev_43, ev_44, ev_45, ev_46, ev_47, ev_48, ev_49, ev_50, ev_51, ev_52, ev_53, ev_54, ev_55, ev_56, ev_57, ev_58, ev_59, ev_60, ev_61, ev_62, ev_63, ev_64, ev_65, ev_66, ev_67, ev_68, ev_69, ev_70, ev_71, ev_72, ev_73, ev_74, ev_75, ev_76, ev_77, ev_78, ev_79, ev_80, ev_81, ev_82, ev_83, mk_lit, mk_fin, mk_cat, mk_fit, mk_nar, mk_fld, mk_cls, mk_ty, mk_isr, List.mem_cons, List.not_mem_nil, or_false, or_true, false_or, true_or, Nat.reduceEqDiff, Nat.reduceAdd, Nat.reduceSub, Nat.reduceLT, Nat.reduceLeDiff, reduceIte, if_true, if_false, List.getElem?_cons_zero, List.getElem?_cons_succ, List.set_cons_zero, List.set_cons_succ, List.length_cons, List.length_nil, mz_s1, mz_s2, mz_cl, true_and, and_true, false_and, and_false, List.append_nil, mk_b0, mk_b1, mk_b2, mk_bn, Value.int.injEq, Option.toList_some, Option.toList_none, List.cons_append, List.nil_append, Classical.not_not, Option.some.injEq, reduceCtorEq, ne_eq, not_true_eq_false, not_false_eq_true, false_implies, true_implies, d_Board_signFrom, j_Board_signFrom, nF_1, h.1, h.2.1, q.1, q.2.1, vp_in_nI (show i < 40 by omega) (show 40 < 2 ^ 31 by decide), nI_clamp (show i < 2 ^ 31 by omega), nI_leI (show 16 < 2 ^ 31 by decide) (show F i < 2 ^ 31 by omega), show 16 ≤ F i by omega, sgF, hF, nI_add, pk_sub (show 16 ≤ 48 + F i by omega)]
def lsB (T : Nat → Nat) : Nat → Nat → Bool
  | _, 0 => false
  | i, m + 1 => if T i = 99 then true else lsB T (i + 1) m
theorem l_Board_isListing (G : mz_G) (X : mz_E) (n : Nat) (f : mz_H) {b w : Nat} {F T L : Nat → Nat} (h : Bd f b w F T L) (hok : BdOk w F T L) (R : Bool) :
    ∀ m i, i + m = w → lsB T i m = R → mz_X G X 1 false b_Board_isListing 2 (some .boolean) (r_Board_isListing 0 0) (fun v n' f' => v = some (.int (mk_b (R = true))) ∧ n' = n ∧ f' = f) (fun _ _ _ => False) 2 [some (.ref b), some (.int (nI i))] [] 0 0 n f := by
  have hw := hok.1
  intro m
  induction m with
  | zero =>
    intro i hi hR
    refine mz_go [2] 12 ?_
    simp only [mz_r0, mk_lit, mk_fin, mk_cat, mk_fit, mk_nar, mk_cls, mk_ty, mk_isr, List.mem_cons, List.not_mem_nil, or_false, or_true, false_or, true_or, Nat.reduceEqDiff, Nat.reduceAdd, Nat.reduceSub, Nat.reduceLT, Nat.reduceLeDiff, ↓reduceIte, if_true, if_false, List.getElem?_cons_zero, List.getElem?_cons_succ, List.set_cons_zero, List.set_cons_succ, List.length_cons, List.length_nil, mz_s1, mz_s2, mz_cl, true_and, and_true, false_and, and_false, List.append_nil, mk_b0, mk_b1, mk_b2, mk_bn, Value.int.injEq, Option.toList_some, Option.toList_none, List.cons_append, List.nil_append, Classical.not_not, Option.some.injEq, reduceCtorEq, ne_eq, not_true_eq_false, not_false_eq_true, false_implies, true_implies, ev_37, ev_41, ev_79, ft_1_3, fn_1_3, ev_56, ft_1_1, fn_1_1, ev_68, ev_1, ev_52, ev_0, ev_64, ev_48, ev_61, mz_rl d_Board_isListing_2, mz_rl d_Board_isListing_3, mz_rl d_Board_isListing_4, mz_rl d_Board_isListing_7, mz_rl d_Board_isListing_10, mz_rl d_Board_isListing_11, mz_rl d_Board_isListing_14, mz_rl d_Board_isListing_15, mz_rl d_Board_isListing_16, mz_rl d_Board_isListing_18, mz_rl d_Board_isListing_21, mz_rl d_Board_isListing_22, mz_rl d_Board_isListing_23, mz_rl d_Board_isListing_26, mz_rl d_Board_isListing_29, mz_rl d_Board_isListing_30, j_Board_isListing_7, j_Board_isListing_18, j_Board_isListing_26, nF_1, h.1, nI_leI (show w < 2 ^ 31 by omega) (show i < 2 ^ 31 by omega), show w ≤ i by omega]
    rw [← hR]; simp [lsB]
  | succ m ih =>
    intro i hi hR
    have e2 := okT_lt (hok.2.1 i (by omega)).2
    refine mz_go [2] 20 ?_
    simp only [mz_r0, mk_lit, mk_fin, mk_cat, mk_fit, mk_nar, mk_cls, mk_ty, mk_isr, List.mem_cons, List.not_mem_nil, or_false, or_true, false_or, true_or, Nat.reduceEqDiff, Nat.reduceAdd, Nat.reduceSub, Nat.reduceLT, Nat.reduceLeDiff, ↓reduceIte, if_true, if_false, List.getElem?_cons_zero, List.getElem?_cons_succ, List.set_cons_zero, List.set_cons_succ, List.length_cons, List.length_nil, mz_s1, mz_s2, mz_cl, true_and, and_true, false_and, and_false, List.append_nil, mk_b0, mk_b1, mk_b2, mk_bn, Value.int.injEq, Option.toList_some, Option.toList_none, List.cons_append, List.nil_append, Classical.not_not, Option.some.injEq, reduceCtorEq, ne_eq, not_true_eq_false, not_false_eq_true, false_implies, true_implies, ev_37, ev_41, ev_79, ft_1_3, fn_1_3, ev_56, ft_1_1, fn_1_1, ev_68, ev_1, ev_52, ev_0, ev_64, ev_48, ev_61, mz_rl d_Board_isListing_2, mz_rl d_Board_isListing_3, mz_rl d_Board_isListing_4, mz_rl d_Board_isListing_7, mz_rl d_Board_isListing_10, mz_rl d_Board_isListing_11, mz_rl d_Board_isListing_14, mz_rl d_Board_isListing_15, mz_rl d_Board_isListing_16, mz_rl d_Board_isListing_18, mz_rl d_Board_isListing_21, mz_rl d_Board_isListing_22, mz_rl d_Board_isListing_23, mz_rl d_Board_isListing_26, mz_rl d_Board_isListing_29, mz_rl d_Board_isListing_30, j_Board_isListing_7, j_Board_isListing_18, j_Board_isListing_26, nF_1, h.1, h.2.2.1, nI_leI (show w < 2 ^ 31 by omega) (show i < 2 ^ 31 by omega), show ¬ w ≤ i by omega, vp_in_nI (show i < 40 by omega) (show 40 < 2 ^ 31 by decide), nI_clamp (show i < 2 ^ 31 by omega), nI_eq (show T i < 2 ^ 31 by omega) (show 99 < 2 ^ 31 by decide), nI_add]
    unfold lsB at hR
    refine ⟨fun h1 => ?_, fun h1 => ?_⟩
    · rw [if_neg h1] at hR
      exact ih (i + 1) (by omega) hR
    · rw [if_pos h1] at hR
      exact hR.symm
theorem c_Board_isListing (G : mz_G) (X : mz_E) (n : Nat) (f : mz_H) {b w : Nat} {F T L : Nat → Nat} (h : Bd f b w F T L) (hok : BdOk w F T L) :
    mz_Ct G X y_Board_isListing b_Board_isListing 2 (some .boolean) (r_Board_isListing 0 0) [.ref b] n f (fun v n' f' => v = some (.int (mk_b (lsB T 0 w = true))) ∧ n' = n ∧ f' = f) := by
  refine mk_Ct 1 false [some (.ref b), none] (by decide) rfl (by decide) (Nat.le_of_ble_eq_true rfl) rfl ?_
  refine mz_go [2] 6 ?_
  simp only [mz_r0, mk_lit, mk_fin, mk_cat, mk_fit, mk_nar, mk_cls, mk_ty, mk_isr, List.mem_cons, List.not_mem_nil, or_false, or_true, false_or, true_or, Nat.reduceEqDiff, Nat.reduceAdd, Nat.reduceSub, Nat.reduceLT, Nat.reduceLeDiff, ↓reduceIte, if_true, if_false, List.getElem?_cons_zero, List.getElem?_cons_succ, List.set_cons_zero, List.set_cons_succ, List.length_cons, List.length_nil, mz_s1, mz_s2, mz_cl, true_and, and_true, false_and, and_false, List.append_nil, mk_b0, mk_b1, mk_b2, mk_bn, Value.int.injEq, Option.toList_some, Option.toList_none, List.cons_append, List.nil_append, Classical.not_not, Option.some.injEq, reduceCtorEq, ne_eq, not_true_eq_false, not_false_eq_true, false_implies, true_implies, ev_0, ev_43, mz_rl d_Board_isListing_0, mz_rl d_Board_isListing_1, nF_1]
  exact l_Board_isListing G X n f h hok _ w 0 (by omega) rfl
def hcB (L : Nat → Nat) (v : Nat) : Bool := decide (L 0 = v) || (decide (L 1 = v) || (decide (L 2 = v) || decide (L 3 = v)))
set_option maxRecDepth 20000 in
theorem c_Board_hasCounterOf (G : mz_G) (X : mz_E) (n : Nat) (f : mz_H) {b w v : Nat} {F T L : Nat → Nat} (h : Bd f b w F T L) (hok : BdOk w F T L) (hv : v < 2 ^ 31) :
    mz_Ct G X y_Board_hasCounterOf b_Board_hasCounterOf 3 (some .boolean) (r_Board_hasCounterOf 0 0) [.ref b, .int (nI v)] n f (fun r n' f' => r = some (.int (mk_b (hcB L v = true))) ∧ n' = n ∧ f' = f) := by
  have e0 := hok.2.2 0 (by decide)
  have e1 := hok.2.2 1 (by decide)
  have e2 := hok.2.2 2 (by decide)
  have e3 := hok.2.2 3 (by decide)
  refine mk_Ct 1 false [some (.ref b), some (.int (nI v)), none] (by decide) rfl (by decide) (Nat.le_of_ble_eq_true rfl) rfl ?_
  refine mz_go [] 60 ?_
  simp only [mz_r0, mk_lit, mk_fin, mk_cat, mk_fit, mk_nar, mk_cls, mk_ty, mk_isr, List.mem_cons, List.not_mem_nil, or_false, or_true, false_or, true_or, Nat.reduceEqDiff, Nat.reduceAdd, Nat.reduceSub, Nat.reduceLT, Nat.reduceLeDiff, ↓reduceIte, if_true, if_false, List.getElem?_cons_zero, List.getElem?_cons_succ, List.set_cons_zero, List.set_cons_succ, List.length_cons, List.length_nil, mz_s1, mz_s2, mz_cl, true_and, and_true, false_and, and_false, List.append_nil, mk_b0, mk_b1, mk_b2, mk_bn, Value.int.injEq, Option.toList_some, Option.toList_none, List.cons_append, List.nil_append, Classical.not_not, Option.some.injEq, reduceCtorEq, ne_eq, not_true_eq_false, not_false_eq_true, false_implies, true_implies, ev_0, ev_43, ev_37, ev_56, ev_41, ev_79, ft_1_2, fn_1_2, ev_68, ev_52, ev_64, ev_48, ev_61, mz_rl d_Board_hasCounterOf_0, mz_rl d_Board_hasCounterOf_1, mz_rl d_Board_hasCounterOf_2, mz_rl d_Board_hasCounterOf_3, mz_rl d_Board_hasCounterOf_4, mz_rl d_Board_hasCounterOf_7, mz_rl d_Board_hasCounterOf_8, mz_rl d_Board_hasCounterOf_11, mz_rl d_Board_hasCounterOf_12, mz_rl d_Board_hasCounterOf_13, mz_rl d_Board_hasCounterOf_14, mz_rl d_Board_hasCounterOf_17, mz_rl d_Board_hasCounterOf_18, mz_rl d_Board_hasCounterOf_19, mz_rl d_Board_hasCounterOf_22, mz_rl d_Board_hasCounterOf_25, mz_rl d_Board_hasCounterOf_26, j_Board_hasCounterOf_4, j_Board_hasCounterOf_14, j_Board_hasCounterOf_22, nF_1, h.1, h.2.2.2, mk_le, mk_ti, vp_in_nI (show 0 < 4 by decide) (show 4 < 2 ^ 31 by decide), vp_in_nI (show 1 < 4 by decide) (show 4 < 2 ^ 31 by decide), vp_in_nI (show 2 < 4 by decide) (show 4 < 2 ^ 31 by decide), vp_in_nI (show 3 < 4 by decide) (show 4 < 2 ^ 31 by decide), nI_clamp (show 0 < 2 ^ 31 by decide), nI_clamp (show 1 < 2 ^ 31 by decide), nI_clamp (show 2 < 2 ^ 31 by decide), nI_clamp (show 3 < 2 ^ 31 by decide), nI_add, nI_eq (show L 0 < 2 ^ 31 by omega) hv, nI_eq (show L 1 < 2 ^ 31 by omega) hv, nI_eq (show L 2 < 2 ^ 31 by omega) hv, nI_eq (show L 3 < 2 ^ 31 by omega) hv, Int.reduceLE]
  unfold hcB
  by_cases q0 : L 0 = v <;> by_cases q1 : L 1 = v <;> by_cases q2 : L 2 = v <;> by_cases q3 : L 3 = v <;> simp [q0, q1, q2, q3]
end
section
theorem mk_pwn {k : Nat} (h : k < 7) : ¬ mk_pw k = 0 := by
  rcases (show k = 0 ∨ k = 1 ∨ k = 2 ∨ k = 3 ∨ k = 4 ∨ k = 5 ∨ k = 6 by omega) with rfl | rfl | rfl | rfl | rfl | rfl | rfl <;> decide
theorem mk_ne10 : ¬ nI 10 = 0 := by decide
/-- what a counter's wheel shows -/
def whl (x : Int32) (k : Nat) : Int32 := if x / mk_pw k = 0 ∧ 0 < k then nI 32 else nI 48 + (x / mk_pw k - x / mk_pw k / nI 10 * nI 10)
theorem c_Board_wheelSign (G : mz_G) (n : Nat) (f : mz_H) {k : Nat} {x : Int32} (hE : f 1000000000001 = mz_d) (hk : k < 6) :
    mz_Ct G mk_P y_Board_wheelSign b_Board_wheelSign 3 (some .int) (r_Board_wheelSign 0 0) [.int x, .int (nI k)] n f (fun v n' f' => v = some (.int (whl x k)) ∧ n' = n ∧ f' = f) := by
  refine mk_Ct 1 false [some (.int x), some (.int (nI k)), none] (by decide) rfl (by decide) (Nat.le_of_ble_eq_true rfl) rfl ?_
  refine mz_go [] 30 ?_
  simp only [mz_r0, mk_lit, mk_fin, mk_cat, mk_fit, mk_nar, mk_cls, mk_ty, mk_isr, List.mem_cons, List.not_mem_nil, or_false, or_true, false_or, true_or, Nat.reduceEqDiff, Nat.reduceAdd, Nat.reduceSub, Nat.reduceLT, Nat.reduceLeDiff, ↓reduceIte, if_true, if_false, List.getElem?_cons_zero, List.getElem?_cons_succ, List.set_cons_zero, List.set_cons_succ, List.length_cons, List.length_nil, mz_s1, mz_s2, mz_cl, true_and, and_true, false_and, and_false, List.append_nil, mk_b0, mk_b1, mk_b2, mk_bn, Value.int.injEq, Option.toList_some, Option.toList_none, List.cons_append, List.nil_append, Classical.not_not, Option.some.injEq, reduceCtorEq, ne_eq, not_true_eq_false, not_false_eq_true, false_implies, true_implies, ev_37, ev_81, ev_68, ev_13, ev_43, ev_51, ev_59, ev_1, ev_61, ev_14, ev_5, ev_64, mz_rl d_Board_wheelSign_0, mz_rl d_Board_wheelSign_1, mz_rl d_Board_wheelSign_4, mz_rl d_Board_wheelSign_5, mz_rl d_Board_wheelSign_6, mz_rl d_Board_wheelSign_7, mz_rl d_Board_wheelSign_8, mz_rl d_Board_wheelSign_9, mz_rl d_Board_wheelSign_12, mz_rl d_Board_wheelSign_13, mz_rl d_Board_wheelSign_16, mz_rl d_Board_wheelSign_18, mz_rl d_Board_wheelSign_21, mz_rl d_Board_wheelSign_23, mz_rl d_Board_wheelSign_24, mz_rl d_Board_wheelSign_26, mz_rl d_Board_wheelSign_27, mz_rl d_Board_wheelSign_28, j_Board_wheelSign_9, j_Board_wheelSign_13, j_Board_wheelSign_18, nF_1, mk_sta, mk_P1, hE, mz_d, vp_in_nI (show k < 7 by omega) (show 7 < 2 ^ 31 by decide), nI_clamp (show k < 2 ^ 31 by omega), mk_pwn (show k < 7 by omega), mk_ne10, mk_le, mk_nti (show k < 2 ^ 31 by omega), mk_ti]
  unfold whl
  refine ⟨fun h => ?_, fun h => ⟨fun h2 => ?_, fun h2 => ?_⟩⟩
  · rw [if_neg (fun z => h z.1)]
  · rw [if_neg (fun z => by omega)]
  · rw [if_pos ⟨h, by omega⟩]
/-- jacks laid into the cells -/
def jH (f : mz_H) (j ja q N : Nat) (g : Nat → Int32) (cl : Int32) : mz_H := mz_u (mz_u f ja (aI N g)) j (.inr (6, [.int (nI q), .ref ja, .int cl]))
theorem jH_jH (f : mz_H) {j ja q N : Nat} {g g' : Nat → Int32} {cl cl' : Int32} (h : j ≠ ja) : mz_u (mz_u (jH f j ja q N g cl) j (.inr (6, [.int (nI q), .ref ja, .int cl']))) ja (aI N g') = jH f j ja q N g' cl' := by
  unfold jH
  rw [mz_uu, mz_uc _ h, mz_uu]
/-- what the wires up to i bring from a card: the jacks' signs, and whether two differed -/
def brC (F T : Nat → Nat) (s : Nat → Nat) (q N : Nat) : Nat → (Nat → Int32) × Int32 → (Nat → Int32) × Int32
  | 0, z => z
  | i + 1, z => let y := brC F T s q N i z
    if F i < 32 ∧ q ≤ T i ∧ T i < q + N then (upd y.1 (T i - q) (nI (sgF F s i)), if y.1 (T i - q) = -1 ∨ y.1 (T i - q) = nI (sgF F s i) then y.2 else nI 1) else y
theorem l_Board_bringFromCard (G : mz_G) (X : mz_E) (n : Nat) (f : mz_H) {b w x K j ja q N : Nat} {F T L : Nat → Nat} {s : Nat → Nat → Nat} {z : (Nat → Int32) × Int32} (h : Bd f b w F T L) (hok : BdOk w F T L) (hC : Cd f K s) (hx : x < K) (hj : j < 172) (hja : ja < 172) (hjj : j ≠ ja) (hjb : j < b ∨ b + 3 < j) (hjab : ja < b ∨ b + 3 < ja) (hN : q + N < 2 ^ 31) :
    ∀ m i, i + m = w → mz_X G X 1 false b_Board_bringFromCard 4 none (r_Board_bringFromCard 0 0) (fun v n' f' => v = none ∧ n' = n ∧ f' = jH f j ja q N (brC F T (s x) q N w z).1 (brC F T (s x) q N w z).2) (fun _ _ _ => False) 6 [some (.ref b), some (.ref (172 + 2 * x)), some (.ref j), some (.int (nI i))] [] 0 0 n (jH f j ja q N (brC F T (s x) q N i z).1 (brC F T (s x) q N i z).2) := by
  have hw := hok.1
  intro m
  induction m with
  | zero =>
    intro i hi
    have : i = w := by omega
    subst this
    have h' : Bd (jH f j ja q N (brC F T (s x) q N i z).1 (brC F T (s x) q N i z).2) b i F T L := Bd_u (Bd_u h hjab _) hjb _
    refine mz_go [6] 12 ?_
    simp only [mz_r0, mk_lit, mk_fin, mk_cat, mk_fit, mk_nar, mk_cls, mk_ty, mk_isr, List.mem_cons, List.not_mem_nil, or_false, or_true, false_or, true_or, Nat.reduceEqDiff, Nat.reduceAdd, Nat.reduceSub, Nat.reduceLT, Nat.reduceLeDiff, ↓reduceIte, if_true, if_false, List.getElem?_cons_zero, List.getElem?_cons_succ, List.set_cons_zero, List.set_cons_succ, List.length_cons, List.length_nil, mz_s1, mz_s2, mz_cl, true_and, and_true, false_and, and_false, List.append_nil, mk_b0, mk_b1, mk_b2, mk_bn, Value.int.injEq, Option.toList_some, Option.toList_none, List.cons_append, List.nil_append, Classical.not_not, Option.some.injEq, reduceCtorEq, ne_eq, not_true_eq_false, not_false_eq_true, false_implies, true_implies, ev_37, ev_41, ev_79, ft_1_3, fn_1_3, ev_56, ev_67, mz_rl d_Board_bringFromCard_6, mz_rl d_Board_bringFromCard_7, mz_rl d_Board_bringFromCard_8, mz_rl d_Board_bringFromCard_11, mz_rl d_Board_bringFromCard_14, mz_rl d_Board_bringFromCard_15, mz_rl d_Board_bringFromCard_16, mz_rl d_Board_bringFromCard_57, j_Board_bringFromCard_11, nF_1, h'.1, nI_leI (show i < 2 ^ 31 by omega) (show i < 2 ^ 31 by omega), Nat.le_refl]
  | succ m ih =>
    intro i hi
    have hlt : i < w := by omega
    have e1 := (hok.2.1 i hlt).1
    have e2 := (hok.2.1 i hlt).2
    have e1' := okF_lt e1
    have e2' := okT_lt e2
    obtain ⟨y, hy⟩ : ∃ y, y = brC F T (s x) q N i z := ⟨_, rfl⟩
    rw [← hy]
    have hnext : brC F T (s x) q N (i + 1) z = if F i < 32 ∧ q ≤ T i ∧ T i < q + N then (upd y.1 (T i - q) (nI (sgF F (s x) i)), if y.1 (T i - q) = -1 ∨ y.1 (T i - q) = nI (sgF F (s x) i) then y.2 else nI 1) else y := by rw [hy]; rfl
    have ih' := ih (i + 1) (by omega)
    rw [hnext] at ih'
    obtain ⟨H, hH⟩ : ∃ H, H = jH f j ja q N y.1 y.2 := ⟨_, rfl⟩
    have h' : Bd H b w F T L := by rw [hH]; exact Bd_u (Bd_u h hjab _) hjb _
    have hC' : Cd H K s := by rw [hH]; exact Cd_u (Cd_u hC hja _) hj _
    have k1 : H j = .inr (6, [.int (nI q), .ref ja, .int y.2]) := by rw [hH]; exact mz_u_s _ _ _
    have k2 : H ja = aI N y.1 := by rw [hH]; unfold jH; rw [mz_u_n (Ne.symm hjj), mz_u_s]
    rw [← hH]
    have skip : ¬ (F i < 32 ∧ q ≤ T i ∧ T i < q + N) → mz_X G X 1 false b_Board_bringFromCard 4 none (r_Board_bringFromCard 0 0) (fun v n' f' => v = none ∧ n' = n ∧ f' = jH f j ja q N (brC F T (s x) q N w z).1 (brC F T (s x) q N w z).2) (fun _ _ _ => False) 51 [some (.ref b), some (.ref (172 + 2 * x)), some (.ref j), some (.int (nI i))] [] 0 0 n H := by
      intro hno
      rw [if_neg hno, ← hH] at ih'
      refine mz_go [6] 12 ?_
      simp only [mz_r0, mk_lit, mk_fin, mk_cat, mk_fit, mk_nar, mk_cls, mk_ty, mk_isr, List.mem_cons, List.not_mem_nil, or_false, or_true, false_or, true_or, Nat.reduceEqDiff, Nat.reduceAdd, Nat.reduceSub, Nat.reduceLT, Nat.reduceLeDiff, ↓reduceIte, if_true, if_false, List.getElem?_cons_zero, List.getElem?_cons_succ, List.set_cons_zero, List.set_cons_succ, List.length_cons, List.length_nil, mz_s1, mz_s2, mz_cl, true_and, and_true, false_and, and_false, List.append_nil, mk_b0, mk_b1, mk_b2, mk_bn, Value.int.injEq, Option.toList_some, Option.toList_none, List.cons_append, List.nil_append, Classical.not_not, Option.some.injEq, reduceCtorEq, ne_eq, not_true_eq_false, not_false_eq_true, false_implies, true_implies, ev_48, ev_61, mz_rl d_Board_bringFromCard_51, mz_rl d_Board_bringFromCard_54, j_Board_bringFromCard_54, nF_1, nI_add]
      exact ih'
    refine mz_go [16] 12 ?_
    simp only [mz_r0, mk_lit, mk_fin, mk_cat, mk_fit, mk_nar, mk_cls, mk_ty, mk_isr, List.mem_cons, List.not_mem_nil, or_false, or_true, false_or, true_or, Nat.reduceEqDiff, Nat.reduceAdd, Nat.reduceSub, Nat.reduceLT, Nat.reduceLeDiff, ↓reduceIte, if_true, if_false, List.getElem?_cons_zero, List.getElem?_cons_succ, List.set_cons_zero, List.set_cons_succ, List.length_cons, List.length_nil, mz_s1, mz_s2, mz_cl, true_and, and_true, false_and, and_false, List.append_nil, mk_b0, mk_b1, mk_b2, mk_bn, Value.int.injEq, Option.toList_some, Option.toList_none, List.cons_append, List.nil_append, Classical.not_not, Option.some.injEq, reduceCtorEq, ne_eq, not_true_eq_false, not_false_eq_true, false_implies, true_implies, ev_37, ev_41, ev_79, ft_1_3, fn_1_3, ev_56, ev_67, mz_rl d_Board_bringFromCard_6, mz_rl d_Board_bringFromCard_7, mz_rl d_Board_bringFromCard_8, mz_rl d_Board_bringFromCard_11, mz_rl d_Board_bringFromCard_14, mz_rl d_Board_bringFromCard_15, mz_rl d_Board_bringFromCard_57, j_Board_bringFromCard_11, nF_1, h'.1, nI_leI (show w < 2 ^ 31 by omega) (show i < 2 ^ 31 by omega), show ¬ w ≤ i by omega]
    refine mz_callV (by simp only [d_Board_bringFromCard_16, Nat.reduceAdd]) g_1_45 rfl (fun _ _ h => h) (c_Board_isFromExit G X n H h' hok hlt) h'.1 rfl rfl (by decide) (Nat.le_of_ble_eq_true rfl) rfl ?_; intro v_ n_ f_ h_; obtain ⟨rfl, hn_, hf_⟩ := h_; replace hn_ := hn_.symm; replace hf_ := hf_.symm; subst hn_; subst hf_
    refine mz_go [29, 51] 12 ?_
    simp only [mz_r0, mk_lit, mk_fin, mk_cat, mk_fit, mk_nar, mk_cls, mk_ty, mk_isr, List.mem_cons, List.not_mem_nil, or_false, or_true, false_or, true_or, Nat.reduceEqDiff, Nat.reduceAdd, Nat.reduceSub, Nat.reduceLT, Nat.reduceLeDiff, ↓reduceIte, if_true, if_false, List.getElem?_cons_zero, List.getElem?_cons_succ, List.set_cons_zero, List.set_cons_succ, List.length_cons, List.length_nil, mz_s1, mz_s2, mz_cl, true_and, and_true, false_and, and_false, List.append_nil, mk_b0, mk_b1, mk_b2, mk_bn, Value.int.injEq, Option.toList_some, Option.toList_none, List.cons_append, List.nil_append, Classical.not_not, Option.some.injEq, reduceCtorEq, ne_eq, not_true_eq_false, not_false_eq_true, false_implies, true_implies, ev_51, ev_41, ev_79, ft_1_1, fn_1_1, ev_37, ev_68, mz_rl d_Board_bringFromCard_19, mz_rl d_Board_bringFromCard_22, mz_rl d_Board_bringFromCard_23, mz_rl d_Board_bringFromCard_24, mz_rl d_Board_bringFromCard_27, mz_rl d_Board_bringFromCard_28, j_Board_bringFromCard_19, nF_1, h'.1, h'.2.2.1, vp_in_nI (show i < 40 by omega) (show 40 < 2 ^ 31 by decide), nI_clamp (show i < 2 ^ 31 by omega)]
    refine ⟨fun hf => skip (by omega), fun hf => ?_⟩
    refine mz_callV (by simp only [d_Board_bringFromCard_29, Nat.reduceAdd]) g_1_49 rfl (fun _ _ h => h) (c_Jacks_hasJack G X n H (x := nI (T i)) k1 k2 hN) k1 rfl rfl (by decide) (Nat.le_of_ble_eq_true rfl) rfl ?_; intro v_ n_ f_ h_; obtain ⟨rfl, hn_, hf_⟩ := h_; replace hn_ := hn_.symm; replace hf_ := hf_.symm; subst hn_; subst hf_
    refine mz_go [45, 51] 12 ?_
    simp only [mz_r0, mk_lit, mk_fin, mk_cat, mk_fit, mk_nar, mk_cls, mk_ty, mk_isr, List.mem_cons, List.not_mem_nil, or_false, or_true, false_or, true_or, Nat.reduceEqDiff, Nat.reduceAdd, Nat.reduceSub, Nat.reduceLT, Nat.reduceLeDiff, ↓reduceIte, if_true, if_false, List.getElem?_cons_zero, List.getElem?_cons_succ, List.set_cons_zero, List.set_cons_succ, List.length_cons, List.length_nil, mz_s1, mz_s2, mz_cl, true_and, and_true, false_and, and_false, List.append_nil, mk_b0, mk_b1, mk_b2, mk_bn, Value.int.injEq, Option.toList_some, Option.toList_none, List.cons_append, List.nil_append, Classical.not_not, Option.some.injEq, reduceCtorEq, ne_eq, not_true_eq_false, not_false_eq_true, false_implies, true_implies, ev_49, ev_41, ev_79, ft_1_1, fn_1_1, ev_37, ev_68, mz_rl d_Board_bringFromCard_32, mz_rl d_Board_bringFromCard_35, mz_rl d_Board_bringFromCard_36, mz_rl d_Board_bringFromCard_37, mz_rl d_Board_bringFromCard_40, mz_rl d_Board_bringFromCard_41, mz_rl d_Board_bringFromCard_42, mz_rl d_Board_bringFromCard_43, mz_rl d_Board_bringFromCard_44, j_Board_bringFromCard_32, nF_1, h'.1, h'.2.2.1, vp_in_nI (show i < 40 by omega) (show 40 < 2 ^ 31 by decide), nI_clamp (show i < 2 ^ 31 by omega), mk_nti (show T i < 2 ^ 31 by omega)]
    refine ⟨fun hf2 => skip (by omega), fun hf2 => ?_⟩
    have hyes : F i < 32 ∧ q ≤ T i ∧ T i < q + N := by omega
    rw [if_pos hyes] at ih'
    refine mz_callV (by simp only [d_Board_bringFromCard_45, Nat.reduceAdd]) g_1_52 rfl (fun _ _ h => h) (c_Board_signFrom G X n H h' hok hlt hC' hx) h'.1 rfl rfl (by decide) (Nat.le_of_ble_eq_true rfl) rfl ?_; intro v_ n_ f_ h_; obtain ⟨rfl, hn_, hf_⟩ := h_; replace hn_ := hn_.symm; replace hf_ := hf_.symm; subst hn_; subst hf_
    have eT : nI (T i) = nI (q + (T i - q)) := by congr 1; omega
    have hb := c_Jacks_bring G X n H (x := nI (sgF F (s x) i)) (k := T i - q) k1 k2 (by omega) hN
    rw [← eT] at hb
    refine mz_callV (by simp only [d_Board_bringFromCard_48, Nat.reduceAdd]) g_1_56 rfl (fun _ _ h => h) (hb) k1 rfl rfl (by decide) (Nat.le_of_ble_eq_true rfl) rfl ?_; intro v_ n_ f_ h_; obtain ⟨rfl, hn_, hf_⟩ := h_; replace hn_ := hn_.symm; replace hf_ := hf_.symm; subst hn_; subst hf_
    rw [hH, jH_jH f hjj]
    refine mz_go [6] 12 ?_
    simp only [mz_r0, mk_lit, mk_fin, mk_cat, mk_fit, mk_nar, mk_cls, mk_ty, mk_isr, List.mem_cons, List.not_mem_nil, or_false, or_true, false_or, true_or, Nat.reduceEqDiff, Nat.reduceAdd, Nat.reduceSub, Nat.reduceLT, Nat.reduceLeDiff, ↓reduceIte, if_true, if_false, List.getElem?_cons_zero, List.getElem?_cons_succ, List.set_cons_zero, List.set_cons_succ, List.length_cons, List.length_nil, mz_s1, mz_s2, mz_cl, true_and, and_true, false_and, and_false, List.append_nil, mk_b0, mk_b1, mk_b2, mk_bn, Value.int.injEq, Option.toList_some, Option.toList_none, List.cons_append, List.nil_append, Classical.not_not, Option.some.injEq, reduceCtorEq, ne_eq, not_true_eq_false, not_false_eq_true, false_implies, true_implies, ev_48, ev_61, mz_rl d_Board_bringFromCard_51, mz_rl d_Board_bringFromCard_54, j_Board_bringFromCard_54, nF_1, nI_add]
    exact ih'
theorem c_Board_bringFromCard (G : mz_G) (X : mz_E) (n : Nat) (f : mz_H) {b w x K j ja q N : Nat} {F T L : Nat → Nat} {s : Nat → Nat → Nat} {g : Nat → Int32} {cl : Int32} (h : Bd f b w F T L) (hok : BdOk w F T L) (hC : Cd f K s) (hx : x < K) (k1 : f j = .inr (6, [.int (nI q), .ref ja, .int cl])) (k2 : f ja = aI N g) (hj : j < 172) (hja : ja < 172) (hjb : j < b ∨ b + 3 < j) (hjab : ja < b ∨ b + 3 < ja) (hN : q + N < 2 ^ 31) :
    mz_Ct G X y_Board_bringFromCard b_Board_bringFromCard 4 none (r_Board_bringFromCard 0 0) [.ref b, .ref (172 + 2 * x), .ref j] n f (fun v n' f' => v = none ∧ n' = n ∧ f' = jH f j ja q N (brC F T (s x) q N w (cpy (fun _ => -1) g N, nI 0)).1 (brC F T (s x) q N w (cpy (fun _ => -1) g N, nI 0)).2) := by
  have hjj : j ≠ ja := by rintro rfl; rw [k1] at k2; cases k2
  refine mk_Ct 1 false [some (.ref b), some (.ref (172 + 2 * x)), some (.ref j), none] (by decide) rfl (by decide) (Nat.le_of_ble_eq_true rfl) rfl ?_
  refine mz_go [1] 12 ?_
  simp only [mz_r0, mk_lit, mk_fin, mk_cat, mk_fit, mk_nar, mk_cls, mk_ty, mk_isr, List.mem_cons, List.not_mem_nil, or_false, or_true, false_or, true_or, Nat.reduceEqDiff, Nat.reduceAdd, Nat.reduceSub, Nat.reduceLT, Nat.reduceLeDiff, ↓reduceIte, if_true, if_false, List.getElem?_cons_zero, List.getElem?_cons_succ, List.set_cons_zero, List.set_cons_succ, List.length_cons, List.length_nil, mz_s1, mz_s2, mz_cl, true_and, and_true, false_and, and_false, List.append_nil, mk_b0, mk_b1, mk_b2, mk_bn, Value.int.injEq, Option.toList_some, Option.toList_none, List.cons_append, List.nil_append, Classical.not_not, Option.some.injEq, reduceCtorEq, ne_eq, not_true_eq_false, not_false_eq_true, false_implies, true_implies, ev_41, mz_rl d_Board_bringFromCard_0, nF_1]
  refine mz_callV (by simp only [d_Board_bringFromCard_1, Nat.reduceAdd]) g_1_40 rfl (fun _ _ h => h) (c_Jacks_clear G X n f k1 k2 (by omega)) k1 rfl rfl (by decide) (Nat.le_of_ble_eq_true rfl) rfl ?_; intro v_ n_ f_ h_; obtain ⟨rfl, hn_, hf_⟩ := h_; replace hn_ := hn_.symm; replace hf_ := hf_.symm; subst hn_; subst hf_
  refine mz_go [6] 12 ?_
  simp only [mz_r0, mk_lit, mk_fin, mk_cat, mk_fit, mk_nar, mk_cls, mk_ty, mk_isr, List.mem_cons, List.not_mem_nil, or_false, or_true, false_or, true_or, Nat.reduceEqDiff, Nat.reduceAdd, Nat.reduceSub, Nat.reduceLT, Nat.reduceLeDiff, ↓reduceIte, if_true, if_false, List.getElem?_cons_zero, List.getElem?_cons_succ, List.set_cons_zero, List.set_cons_succ, List.length_cons, List.length_nil, mz_s1, mz_s2, mz_cl, true_and, and_true, false_and, and_false, List.append_nil, mk_b0, mk_b1, mk_b2, mk_bn, Value.int.injEq, Option.toList_some, Option.toList_none, List.cons_append, List.nil_append, Classical.not_not, Option.some.injEq, reduceCtorEq, ne_eq, not_true_eq_false, not_false_eq_true, false_implies, true_implies, ev_0, ev_43, mz_rl d_Board_bringFromCard_4, mz_rl d_Board_bringFromCard_5, nF_1]
  exact l_Board_bringFromCard G X n f (z := (cpy (fun _ => -1) g N, nI 0)) h hok hC hx hj hja hjj hjb hjab hN w 0 (by omega)
/-- every jack holds nothing or a sign -/
theorem brC_ok {F T : Nat → Nat} {s : Nat → Nat} {q N w : Nat} {z : (Nat → Int32) × Int32} {L : Nat → Nat} (hok : BdOk w F T L) (hs : ∀ j, j < 16 → sg (s j)) (hz : ∀ k, k < N → z.1 k = -1 ∨ ∃ c, sg c ∧ z.1 k = nI c) (hz2 : z.2 = nI 0 ∨ z.2 = nI 1) : ∀ i, i ≤ w → (∀ k, k < N → (brC F T s q N i z).1 k = -1 ∨ ∃ c, sg c ∧ (brC F T s q N i z).1 k = nI c) ∧ ((brC F T s q N i z).2 = nI 0 ∨ (brC F T s q N i z).2 = nI 1) := by
  intro i
  induction i with
  | zero => intro _; exact ⟨hz, hz2⟩
  | succ i ih =>
    intro hi
    obtain ⟨a1, a2⟩ := ih (by omega)
    unfold brC
    by_cases hc : F i < 32 ∧ q ≤ T i ∧ T i < q + N
    · simp only [hc, and_self, if_true]
      refine ⟨fun k hk => ?_, ?_⟩
      · unfold upd
        by_cases e : k = T i - q
        · rw [if_pos e]; exact Or.inr ⟨_, sgF_ok (hok.2.1 i (by omega)).1 hc.1 hs, rfl⟩
        · rw [if_neg e]; exact a1 k hk
      · split
        · exact a2
        · exact Or.inr rfl
    · simp only [hc, if_false]
      exact ⟨a1, a2⟩
end
section
theorem mk_ne6 : ¬ nI 6 = 0 := by decide
theorem mk_rem {a d : Nat} (ha : a < 2 ^ 31) (h0 : 0 < d) (hd : d < 2 ^ 31) : nI a - nI (a / d) * nI d = nI (a % d) := by
  rw [← pk_div ha h0 hd]; exact pk_rem ha h0 hd
theorem mk_max {a b : Nat} (ha : a < 2 ^ 31) (hb : b < 2 ^ 31) : (if nI a < nI b then nI b else nI a) = nI (max a b) := by
  by_cases h : a < b
  · rw [if_pos ((nI_ltI ha hb).mpr h)]; congr 1; omega
  · rw [if_neg (fun z => h ((nI_ltI ha hb).mp z))]; congr 1; omega
/-- what the wires up to i bring of the totals of a level -/
def brX (F T L : Nat → Nat) (cg : Nat → Int32) (lv q N : Nat) : Nat → (Nat → Int32) × Int32 → (Nat → Int32) × Int32
  | 0, z => z
  | i + 1, z => let y := brX F T L cg lv q N i z
    if 32 ≤ F i ∧ q ≤ T i ∧ T i < q + N ∧ L ((F i - 32) / 6) = lv then (upd y.1 (T i - q) (whl (cg ((F i - 32) / 6)) ((F i - 32) % 6)), if y.1 (T i - q) = -1 ∨ y.1 (T i - q) = whl (cg ((F i - 32) / 6)) ((F i - 32) % 6) then y.2 else nI 1) else y
theorem brX_cl {F T L : Nat → Nat} {cg : Nat → Int32} {lv q N : Nat} {z : (Nat → Int32) × Int32} (hz : z.2 = nI 0 ∨ z.2 = nI 1) : ∀ i, (brX F T L cg lv q N i z).2 = nI 0 ∨ (brX F T L cg lv q N i z).2 = nI 1 := by
  intro i
  induction i with
  | zero => exact hz
  | succ i ih =>
    unfold brX
    simp only []
    split
    · simp only []
      split
      · exact ih
      · exact Or.inr rfl
    · exact ih
theorem l_Board_bringFromCounters (G : mz_G) (n : Nat) (f : mz_H) {b w j ja q N lv ca : Nat} {F T L : Nat → Nat} {cg : Nat → Int32} {z : (Nat → Int32) × Int32} (hE : f 1000000000001 = mz_d) (h : Bd f b w F T L) (hok : BdOk w F T L) (hca : f ca = aI 4 cg) (hj : j < 172) (hja : ja < 172) (hcj : ca ≠ j) (hcja : ca ≠ ja) (hjj : j ≠ ja) (hjb : j < b ∨ b + 3 < j) (hjab : ja < b ∨ b + 3 < ja) (hN : q + N < 2 ^ 31) (hlv : lv < 2 ^ 31) :
    ∀ m i w5 w6, i + m = w → mz_X G mk_P 1 false b_Board_bringFromCounters 7 none (r_Board_bringFromCounters 0 0) (fun v n' f' => v = none ∧ n' = n ∧ f' = jH f j ja q N (brX F T L cg lv q N w z).1 (brX F T L cg lv q N w z).2) (fun _ _ _ => False) 7 [some (.ref b), some (.ref ca), some (.int (nI lv)), some (.ref j), some (.int (nI i)), w5, w6] [] 0 0 n (jH f j ja q N (brX F T L cg lv q N i z).1 (brX F T L cg lv q N i z).2) := by
  have hw := hok.1
  have hfr : ∀ (g : Nat → Int32) (cl : Int32) (a : Nat), a ≠ j → a ≠ ja → (jH f j ja q N g cl) a = f a := fun g cl a h1 h2 => by unfold jH; rw [mz_u_n h1, mz_u_n h2]
  intro m
  induction m with
  | zero =>
    intro i w5 w6 hi
    have : i = w := by omega
    subst this
    have h' : Bd (jH f j ja q N (brX F T L cg lv q N i z).1 (brX F T L cg lv q N i z).2) b i F T L := Bd_u (Bd_u h hjab _) hjb _
    refine mz_go [7] 12 ?_
    simp only [mz_r0, mk_lit, mk_fin, mk_cat, mk_fit, mk_nar, mk_cls, mk_ty, mk_isr, List.mem_cons, List.not_mem_nil, or_false, or_true, false_or, true_or, Nat.reduceEqDiff, Nat.reduceAdd, Nat.reduceSub, Nat.reduceLT, Nat.reduceLeDiff, ↓reduceIte, if_true, if_false, List.getElem?_cons_zero, List.getElem?_cons_succ, List.set_cons_zero, List.set_cons_succ, List.length_cons, List.length_nil, mz_s1, mz_s2, mz_cl, true_and, and_true, false_and, and_false, List.append_nil, mk_b0, mk_b1, mk_b2, mk_bn, Value.int.injEq, Option.toList_some, Option.toList_none, List.cons_append, List.nil_append, Classical.not_not, Option.some.injEq, reduceCtorEq, ne_eq, not_true_eq_false, not_false_eq_true, false_implies, true_implies, ev_36, ev_41, ev_79, ft_1_3, fn_1_3, ev_56, ev_67, mz_rl d_Board_bringFromCounters_7, mz_rl d_Board_bringFromCounters_9, mz_rl d_Board_bringFromCounters_10, mz_rl d_Board_bringFromCounters_13, mz_rl d_Board_bringFromCounters_16, mz_rl d_Board_bringFromCounters_17, mz_rl d_Board_bringFromCounters_19, mz_rl d_Board_bringFromCounters_98, j_Board_bringFromCounters_13, nF_1, h'.1, nI_leI (show i < 2 ^ 31 by omega) (show i < 2 ^ 31 by omega), Nat.le_refl]
  | succ m ih =>
    intro i w5 w6 hi
    have hlt : i < w := by omega
    have e1 := (hok.2.1 i hlt).1
    have e2 := (hok.2.1 i hlt).2
    have e1' := okF_lt e1
    have e2' := okT_lt e2
    obtain ⟨y, hy⟩ : ∃ y, y = brX F T L cg lv q N i z := ⟨_, rfl⟩
    rw [← hy]
    have hnext : brX F T L cg lv q N (i + 1) z = if 32 ≤ F i ∧ q ≤ T i ∧ T i < q + N ∧ L ((F i - 32) / 6) = lv then (upd y.1 (T i - q) (whl (cg ((F i - 32) / 6)) ((F i - 32) % 6)), if y.1 (T i - q) = -1 ∨ y.1 (T i - q) = whl (cg ((F i - 32) / 6)) ((F i - 32) % 6) then y.2 else nI 1) else y := by rw [hy]; rfl
    have ih' := fun w5 w6 => ih (i + 1) w5 w6 (by omega)
    rw [hnext] at ih'
    obtain ⟨H, hH⟩ : ∃ H, H = jH f j ja q N y.1 y.2 := ⟨_, rfl⟩
    have h' : Bd H b w F T L := by rw [hH]; exact Bd_u (Bd_u h hjab _) hjb _
    have k1 : H j = .inr (6, [.int (nI q), .ref ja, .int y.2]) := by rw [hH]; exact mz_u_s _ _ _
    have k2 : H ja = aI N y.1 := by rw [hH]; unfold jH; rw [mz_u_n (Ne.symm hjj), mz_u_s]
    have k3 : H ca = aI 4 cg := by rw [hH, hfr _ _ _ hcj hcja]; exact hca
    have k4 : H 1000000000001 = mz_d := by rw [hH, hfr _ _ _ (by omega) (by omega)]; exact hE
    rw [← hH]
    have skip : ∀ w5 w6, ¬ (32 ≤ F i ∧ q ≤ T i ∧ T i < q + N ∧ L ((F i - 32) / 6) = lv) → mz_X G mk_P 1 false b_Board_bringFromCounters 7 none (r_Board_bringFromCounters 0 0) (fun v n' f' => v = none ∧ n' = n ∧ f' = jH f j ja q N (brX F T L cg lv q N w z).1 (brX F T L cg lv q N w z).2) (fun _ _ _ => False) 92 [some (.ref b), some (.ref ca), some (.int (nI lv)), some (.ref j), some (.int (nI i)), w5, w6] [] 0 0 n H := by
      intro w5 w6 hno
      have := ih' w5 w6
      rw [if_neg hno, ← hH] at this
      refine mz_go [7] 12 ?_
      simp only [mz_r0, mk_lit, mk_fin, mk_cat, mk_fit, mk_nar, mk_cls, mk_ty, mk_isr, List.mem_cons, List.not_mem_nil, or_false, or_true, false_or, true_or, Nat.reduceEqDiff, Nat.reduceAdd, Nat.reduceSub, Nat.reduceLT, Nat.reduceLeDiff, ↓reduceIte, if_true, if_false, List.getElem?_cons_zero, List.getElem?_cons_succ, List.set_cons_zero, List.set_cons_succ, List.length_cons, List.length_nil, mz_s1, mz_s2, mz_cl, true_and, and_true, false_and, and_false, List.append_nil, mk_b0, mk_b1, mk_b2, mk_bn, Value.int.injEq, Option.toList_some, Option.toList_none, List.cons_append, List.nil_append, Classical.not_not, Option.some.injEq, reduceCtorEq, ne_eq, not_true_eq_false, not_false_eq_true, false_implies, true_implies, ev_48, ev_61, mz_rl d_Board_bringFromCounters_92, mz_rl d_Board_bringFromCounters_95, j_Board_bringFromCounters_95, nF_1, nI_add]
      exact this
    refine mz_go [19] 12 ?_
    simp only [mz_r0, mk_lit, mk_fin, mk_cat, mk_fit, mk_nar, mk_cls, mk_ty, mk_isr, List.mem_cons, List.not_mem_nil, or_false, or_true, false_or, true_or, Nat.reduceEqDiff, Nat.reduceAdd, Nat.reduceSub, Nat.reduceLT, Nat.reduceLeDiff, ↓reduceIte, if_true, if_false, List.getElem?_cons_zero, List.getElem?_cons_succ, List.set_cons_zero, List.set_cons_succ, List.length_cons, List.length_nil, mz_s1, mz_s2, mz_cl, true_and, and_true, false_and, and_false, List.append_nil, mk_b0, mk_b1, mk_b2, mk_bn, Value.int.injEq, Option.toList_some, Option.toList_none, List.cons_append, List.nil_append, Classical.not_not, Option.some.injEq, reduceCtorEq, ne_eq, not_true_eq_false, not_false_eq_true, false_implies, true_implies, ev_36, ev_41, ev_79, ft_1_3, fn_1_3, ev_56, ev_67, mz_rl d_Board_bringFromCounters_7, mz_rl d_Board_bringFromCounters_9, mz_rl d_Board_bringFromCounters_10, mz_rl d_Board_bringFromCounters_13, mz_rl d_Board_bringFromCounters_16, mz_rl d_Board_bringFromCounters_17, mz_rl d_Board_bringFromCounters_98, j_Board_bringFromCounters_13, nF_1, h'.1, nI_leI (show w < 2 ^ 31 by omega) (show i < 2 ^ 31 by omega), show ¬ w ≤ i by omega]
    refine mz_callV (by simp only [d_Board_bringFromCounters_19, Nat.reduceAdd]) g_1_45 rfl (fun _ _ h => h) (c_Board_isFromExit G mk_P n H h' hok hlt) h'.1 rfl rfl (by decide) (Nat.le_of_ble_eq_true rfl) rfl ?_; intro v_ n_ f_ h_; obtain ⟨rfl, hn_, hf_⟩ := h_; replace hn_ := hn_.symm; replace hf_ := hf_.symm; subst hn_; subst hf_
    refine mz_go [33, 92] 12 ?_
    simp only [mz_r0, mk_lit, mk_fin, mk_cat, mk_fit, mk_nar, mk_cls, mk_ty, mk_isr, List.mem_cons, List.not_mem_nil, or_false, or_true, false_or, true_or, Nat.reduceEqDiff, Nat.reduceAdd, Nat.reduceSub, Nat.reduceLT, Nat.reduceLeDiff, ↓reduceIte, if_true, if_false, List.getElem?_cons_zero, List.getElem?_cons_succ, List.set_cons_zero, List.set_cons_succ, List.length_cons, List.length_nil, mz_s1, mz_s2, mz_cl, true_and, and_true, false_and, and_false, List.append_nil, mk_b0, mk_b1, mk_b2, mk_bn, Value.int.injEq, Option.toList_some, Option.toList_none, List.cons_append, List.nil_append, Classical.not_not, Option.some.injEq, reduceCtorEq, ne_eq, not_true_eq_false, not_false_eq_true, false_implies, true_implies, ev_49, ev_41, ev_79, ft_1_1, fn_1_1, ev_36, ev_68, mz_rl d_Board_bringFromCounters_22, mz_rl d_Board_bringFromCounters_25, mz_rl d_Board_bringFromCounters_26, mz_rl d_Board_bringFromCounters_27, mz_rl d_Board_bringFromCounters_30, mz_rl d_Board_bringFromCounters_32, j_Board_bringFromCounters_22, nF_1, h'.1, h'.2.2.1, vp_in_nI (show i < 40 by omega) (show 40 < 2 ^ 31 by decide), nI_clamp (show i < 2 ^ 31 by omega)]
    refine ⟨fun hf => skip _ _ (by omega), fun hf => ?_⟩
    refine mz_callV (by simp only [d_Board_bringFromCounters_33, Nat.reduceAdd]) g_1_49 rfl (fun _ _ h => h) (c_Jacks_hasJack G mk_P n H (x := nI (T i)) k1 k2 hN) k1 rfl rfl (by decide) (Nat.le_of_ble_eq_true rfl) rfl ?_; intro v_ n_ f_ h_; obtain ⟨rfl, hn_, hf_⟩ := h_; replace hn_ := hn_.symm; replace hf_ := hf_.symm; subst hn_; subst hf_
    have hc4 : (F i - 32) / 6 < 4 := by unfold okF at e1; omega
    have hl4 := hok.2.2 _ hc4
    refine mz_go [86, 92] 40 ?_
    simp only [mz_r0, mk_lit, mk_fin, mk_cat, mk_fit, mk_nar, mk_cls, mk_ty, mk_isr, List.mem_cons, List.not_mem_nil, or_false, or_true, false_or, true_or, Nat.reduceEqDiff, Nat.reduceAdd, Nat.reduceSub, Nat.reduceLT, Nat.reduceLeDiff, ↓reduceIte, if_true, if_false, List.getElem?_cons_zero, List.getElem?_cons_succ, List.set_cons_zero, List.set_cons_succ, List.length_cons, List.length_nil, mz_s1, mz_s2, mz_cl, true_and, and_true, false_and, and_false, List.append_nil, mk_b0, mk_b1, mk_b2, mk_bn, Value.int.injEq, Option.toList_some, Option.toList_none, List.cons_append, List.nil_append, Classical.not_not, Option.some.injEq, reduceCtorEq, ne_eq, not_true_eq_false, not_false_eq_true, false_implies, true_implies, ev_49, ev_41, ev_79, ft_1_0, fn_1_0, ev_36, ev_68, ev_1, ev_6, ev_42, ev_13, ft_1_2, fn_1_2, ev_37, ev_52, ft_1_1, fn_1_1, ev_14, mz_rl d_Board_bringFromCounters_36, mz_rl d_Board_bringFromCounters_39, mz_rl d_Board_bringFromCounters_40, mz_rl d_Board_bringFromCounters_43, mz_rl d_Board_bringFromCounters_45, mz_rl d_Board_bringFromCounters_46, mz_rl d_Board_bringFromCounters_48, mz_rl d_Board_bringFromCounters_49, mz_rl d_Board_bringFromCounters_51, mz_rl d_Board_bringFromCounters_53, mz_rl d_Board_bringFromCounters_55, mz_rl d_Board_bringFromCounters_56, mz_rl d_Board_bringFromCounters_58, mz_rl d_Board_bringFromCounters_59, mz_rl d_Board_bringFromCounters_62, mz_rl d_Board_bringFromCounters_64, mz_rl d_Board_bringFromCounters_65, mz_rl d_Board_bringFromCounters_66, mz_rl d_Board_bringFromCounters_69, mz_rl d_Board_bringFromCounters_70, mz_rl d_Board_bringFromCounters_71, mz_rl d_Board_bringFromCounters_74, mz_rl d_Board_bringFromCounters_76, mz_rl d_Board_bringFromCounters_77, mz_rl d_Board_bringFromCounters_78, mz_rl d_Board_bringFromCounters_80, mz_rl d_Board_bringFromCounters_81, mz_rl d_Board_bringFromCounters_83, mz_rl d_Board_bringFromCounters_85, j_Board_bringFromCounters_36, j_Board_bringFromCounters_66, nF_1, h'.1, h'.2.1, h'.2.2.1, h'.2.2.2, k3, vp_in_nI (show i < 40 by omega) (show 40 < 2 ^ 31 by decide), nI_clamp (show i < 2 ^ 31 by omega), mk_nti (show T i < 2 ^ 31 by omega), pk_sub hf, mk_ne6, pk_div (show F i - 32 < 2 ^ 31 by omega) (show 0 < 6 by decide) (show 6 < 2 ^ 31 by decide), mk_rem (show F i - 32 < 2 ^ 31 by omega) (show 0 < 6 by decide) (show 6 < 2 ^ 31 by decide), vp_in_nI hc4 (show 4 < 2 ^ 31 by decide), nI_clamp (show (F i - 32) / 6 < 2 ^ 31 by omega), nI_eq (show L ((F i - 32) / 6) < 2 ^ 31 by omega) hlv]
    refine ⟨fun hf2 => skip _ _ (by omega), fun hf2 => ⟨fun hf3 => skip _ _ (fun z => hf3 z.2.2.2), fun hf3 => ?_⟩⟩
    have hyes : 32 ≤ F i ∧ q ≤ T i ∧ T i < q + N ∧ L ((F i - 32) / 6) = lv := ⟨hf, by omega, by omega, hf3⟩
    refine mz_callS (by simp only [d_Board_bringFromCounters_86, Nat.reduceAdd]) g_1_60 rfl (fun _ _ h => h) (c_Board_wheelSign G n H (x := cg ((F i - 32) / 6)) k4 (show (F i - 32) % 6 < 6 by omega)) (by decide) (Nat.le_of_ble_eq_true rfl) rfl ?_; intro v_ n_ f_ h_; obtain ⟨rfl, hn_, hf_⟩ := h_; replace hn_ := hn_.symm; replace hf_ := hf_.symm; subst hn_; subst hf_
    have eT : nI (T i) = nI (q + (T i - q)) := by congr 1; omega
    have hb := c_Jacks_bring G mk_P n H (x := whl (cg ((F i - 32) / 6)) ((F i - 32) % 6)) (k := T i - q) k1 k2 (by omega) hN
    rw [← eT] at hb
    refine mz_callV (by simp only [d_Board_bringFromCounters_89, Nat.reduceAdd]) g_1_56 rfl (fun _ _ h => h) (hb) k1 rfl rfl (by decide) (Nat.le_of_ble_eq_true rfl) rfl ?_; intro v_ n_ f_ h_; obtain ⟨rfl, hn_, hf_⟩ := h_; replace hn_ := hn_.symm; replace hf_ := hf_.symm; subst hn_; subst hf_
    rw [hH, jH_jH f hjj]
    have := ih' (some (.int (nI (F i - 32)))) (some (.int (nI ((F i - 32) / 6))))
    rw [if_pos hyes] at this
    refine mz_go [7] 12 ?_
    simp only [mz_r0, mk_lit, mk_fin, mk_cat, mk_fit, mk_nar, mk_cls, mk_ty, mk_isr, List.mem_cons, List.not_mem_nil, or_false, or_true, false_or, true_or, Nat.reduceEqDiff, Nat.reduceAdd, Nat.reduceSub, Nat.reduceLT, Nat.reduceLeDiff, ↓reduceIte, if_true, if_false, List.getElem?_cons_zero, List.getElem?_cons_succ, List.set_cons_zero, List.set_cons_succ, List.length_cons, List.length_nil, mz_s1, mz_s2, mz_cl, true_and, and_true, false_and, and_false, List.append_nil, mk_b0, mk_b1, mk_b2, mk_bn, Value.int.injEq, Option.toList_some, Option.toList_none, List.cons_append, List.nil_append, Classical.not_not, Option.some.injEq, reduceCtorEq, ne_eq, not_true_eq_false, not_false_eq_true, false_implies, true_implies, ev_48, ev_61, mz_rl d_Board_bringFromCounters_92, mz_rl d_Board_bringFromCounters_95, j_Board_bringFromCounters_95, nF_1, nI_add]
    exact this
theorem c_Board_bringFromCounters (G : mz_G) (n : Nat) (f : mz_H) {b w j ja q N lv ca : Nat} {F T L : Nat → Nat} {cg g : Nat → Int32} {cl : Int32} (hE : f 1000000000001 = mz_d) (h : Bd f b w F T L) (hok : BdOk w F T L) (hca : f ca = aI 4 cg) (k1 : f j = .inr (6, [.int (nI q), .ref ja, .int cl])) (k2 : f ja = aI N g) (hj : j < 172) (hja : ja < 172) (hcja : ca ≠ ja) (hjb : j < b ∨ b + 3 < j) (hjab : ja < b ∨ b + 3 < ja) (hN : q + N < 2 ^ 31) (hlv : lv < 2 ^ 31) :
    mz_Ct G mk_P y_Board_bringFromCounters b_Board_bringFromCounters 7 none (r_Board_bringFromCounters 0 0) [.ref b, .ref ca, .int (nI lv), .ref j] n f (fun v n' f' => v = none ∧ n' = n ∧ f' = jH f j ja q N (brX F T L cg lv q N w (cpy (fun _ => -1) g N, nI 0)).1 (brX F T L cg lv q N w (cpy (fun _ => -1) g N, nI 0)).2) := by
  have hjj : j ≠ ja := by rintro rfl; rw [k1] at k2; cases k2
  have hcj : ca ≠ j := by rintro rfl; rw [k1] at hca; cases hca
  refine mk_Ct 1 false [some (.ref b), some (.ref ca), some (.int (nI lv)), some (.ref j), none, none, none] (by decide) rfl (by decide) (Nat.le_of_ble_eq_true rfl) rfl ?_
  refine mz_go [1] 12 ?_
  simp only [mz_r0, mk_lit, mk_fin, mk_cat, mk_fit, mk_nar, mk_cls, mk_ty, mk_isr, List.mem_cons, List.not_mem_nil, or_false, or_true, false_or, true_or, Nat.reduceEqDiff, Nat.reduceAdd, Nat.reduceSub, Nat.reduceLT, Nat.reduceLeDiff, ↓reduceIte, if_true, if_false, List.getElem?_cons_zero, List.getElem?_cons_succ, List.set_cons_zero, List.set_cons_succ, List.length_cons, List.length_nil, mz_s1, mz_s2, mz_cl, true_and, and_true, false_and, and_false, List.append_nil, mk_b0, mk_b1, mk_b2, mk_bn, Value.int.injEq, Option.toList_some, Option.toList_none, List.cons_append, List.nil_append, Classical.not_not, Option.some.injEq, reduceCtorEq, ne_eq, not_true_eq_false, not_false_eq_true, false_implies, true_implies, ev_41, mz_rl d_Board_bringFromCounters_0, nF_1]
  refine mz_callV (by simp only [d_Board_bringFromCounters_1, Nat.reduceAdd]) g_1_40 rfl (fun _ _ h => h) (c_Jacks_clear G mk_P n f k1 k2 (by omega)) k1 rfl rfl (by decide) (Nat.le_of_ble_eq_true rfl) rfl ?_; intro v_ n_ f_ h_; obtain ⟨rfl, hn_, hf_⟩ := h_; replace hn_ := hn_.symm; replace hf_ := hf_.symm; subst hn_; subst hf_
  refine mz_go [7] 12 ?_
  simp only [mz_r0, mk_lit, mk_fin, mk_cat, mk_fit, mk_nar, mk_cls, mk_ty, mk_isr, List.mem_cons, List.not_mem_nil, or_false, or_true, false_or, true_or, Nat.reduceEqDiff, Nat.reduceAdd, Nat.reduceSub, Nat.reduceLT, Nat.reduceLeDiff, ↓reduceIte, if_true, if_false, List.getElem?_cons_zero, List.getElem?_cons_succ, List.set_cons_zero, List.set_cons_succ, List.length_cons, List.length_nil, mz_s1, mz_s2, mz_cl, true_and, and_true, false_and, and_false, List.append_nil, mk_b0, mk_b1, mk_b2, mk_bn, Value.int.injEq, Option.toList_some, Option.toList_none, List.cons_append, List.nil_append, Classical.not_not, Option.some.injEq, reduceCtorEq, ne_eq, not_true_eq_false, not_false_eq_true, false_implies, true_implies, ev_0, ev_42, mz_rl d_Board_bringFromCounters_4, mz_rl d_Board_bringFromCounters_5, nF_1]
  exact l_Board_bringFromCounters G n f (z := (cpy (fun _ => -1) g N, nI 0)) hE h hok hca hj hja hcj hcja hjj hjb hjab hN hlv w 0 none none (by omega)
/-- may each wire's sign be punched? -/
def cpB (F T : Nat → Nat) (m c : Nat → Nat) : Nat → Nat → Bool
  | _, 0 => true
  | i, k + 1 => if F i < 32 ∧ T i < 16 ∧ ¬ (c (T i) = 32 ∨ c (T i) = sgF F m i) then false else cpB F T m c (i + 1) k
theorem l_Board_canPunch (G : mz_G) (X : mz_E) (n : Nat) (f : mz_H) {b w x y K : Nat} {F T L : Nat → Nat} {s : Nat → Nat → Nat} (h : Bd f b w F T L) (hok : BdOk w F T L) (hC : Cd f K s) (hx : x < K) (hy : y < K) (R : Bool) :
    ∀ m i, i + m = w → cpB F T (s x) (s y) i m = R → mz_X G X 1 false b_Board_canPunch 4 (some .boolean) (r_Board_canPunch 0 0) (fun v n' f' => v = some (.int (mk_b (R = true))) ∧ n' = n ∧ f' = f) (fun _ _ _ => False) 2 [some (.ref b), some (.ref (172 + 2 * x)), some (.ref (172 + 2 * y)), some (.int (nI i))] [] 0 0 n f := by
  have hw := hok.1
  intro m
  induction m with
  | zero =>
    intro i hi hR
    refine mz_go [2] 12 ?_
    simp only [mz_r0, mk_lit, mk_fin, mk_cat, mk_fit, mk_nar, mk_cls, mk_ty, mk_isr, List.mem_cons, List.not_mem_nil, or_false, or_true, false_or, true_or, Nat.reduceEqDiff, Nat.reduceAdd, Nat.reduceSub, Nat.reduceLT, Nat.reduceLeDiff, ↓reduceIte, if_true, if_false, List.getElem?_cons_zero, List.getElem?_cons_succ, List.set_cons_zero, List.set_cons_succ, List.length_cons, List.length_nil, mz_s1, mz_s2, mz_cl, true_and, and_true, false_and, and_false, List.append_nil, mk_b0, mk_b1, mk_b2, mk_bn, Value.int.injEq, Option.toList_some, Option.toList_none, List.cons_append, List.nil_append, Classical.not_not, Option.some.injEq, reduceCtorEq, ne_eq, not_true_eq_false, not_false_eq_true, false_implies, true_implies, ev_37, ev_41, ev_79, ft_1_3, fn_1_3, ev_56, ev_0, ev_64, mz_rl d_Board_canPunch_2, mz_rl d_Board_canPunch_3, mz_rl d_Board_canPunch_4, mz_rl d_Board_canPunch_7, mz_rl d_Board_canPunch_10, mz_rl d_Board_canPunch_11, mz_rl d_Board_canPunch_12, mz_rl d_Board_canPunch_56, mz_rl d_Board_canPunch_57, j_Board_canPunch_7, nF_1, h.1, nI_leI (show w < 2 ^ 31 by omega) (show i < 2 ^ 31 by omega), show w ≤ i by omega]
    exact hR.symm
  | succ m ih =>
    intro i hi hR
    have hlt : i < w := by omega
    have e1 := (hok.2.1 i hlt).1
    have e2 := okT_lt (hok.2.1 i hlt).2
    have qy := hC y hy
    unfold cpB at hR
    have skip : ¬ (F i < 32 ∧ T i < 16 ∧ ¬ (s y (T i) = 32 ∨ s y (T i) = sgF F (s x) i)) → mz_X G X 1 false b_Board_canPunch 4 (some .boolean) (r_Board_canPunch 0 0) (fun v n' f' => v = some (.int (mk_b (R = true))) ∧ n' = n ∧ f' = f) (fun _ _ _ => False) 50 [some (.ref b), some (.ref (172 + 2 * x)), some (.ref (172 + 2 * y)), some (.int (nI i))] [] 0 0 n f := by
      intro hno
      rw [if_neg hno] at hR
      refine mz_go [2] 12 ?_
      simp only [mz_r0, mk_lit, mk_fin, mk_cat, mk_fit, mk_nar, mk_cls, mk_ty, mk_isr, List.mem_cons, List.not_mem_nil, or_false, or_true, false_or, true_or, Nat.reduceEqDiff, Nat.reduceAdd, Nat.reduceSub, Nat.reduceLT, Nat.reduceLeDiff, ↓reduceIte, if_true, if_false, List.getElem?_cons_zero, List.getElem?_cons_succ, List.set_cons_zero, List.set_cons_succ, List.length_cons, List.length_nil, mz_s1, mz_s2, mz_cl, true_and, and_true, false_and, and_false, List.append_nil, mk_b0, mk_b1, mk_b2, mk_bn, Value.int.injEq, Option.toList_some, Option.toList_none, List.cons_append, List.nil_append, Classical.not_not, Option.some.injEq, reduceCtorEq, ne_eq, not_true_eq_false, not_false_eq_true, false_implies, true_implies, ev_48, ev_61, mz_rl d_Board_canPunch_50, mz_rl d_Board_canPunch_53, j_Board_canPunch_53, nF_1, nI_add]
      exact ih (i + 1) (by omega) hR
    refine mz_go [12] 12 ?_
    simp only [mz_r0, mk_lit, mk_fin, mk_cat, mk_fit, mk_nar, mk_cls, mk_ty, mk_isr, List.mem_cons, List.not_mem_nil, or_false, or_true, false_or, true_or, Nat.reduceEqDiff, Nat.reduceAdd, Nat.reduceSub, Nat.reduceLT, Nat.reduceLeDiff, ↓reduceIte, if_true, if_false, List.getElem?_cons_zero, List.getElem?_cons_succ, List.set_cons_zero, List.set_cons_succ, List.length_cons, List.length_nil, mz_s1, mz_s2, mz_cl, true_and, and_true, false_and, and_false, List.append_nil, mk_b0, mk_b1, mk_b2, mk_bn, Value.int.injEq, Option.toList_some, Option.toList_none, List.cons_append, List.nil_append, Classical.not_not, Option.some.injEq, reduceCtorEq, ne_eq, not_true_eq_false, not_false_eq_true, false_implies, true_implies, ev_37, ev_41, ev_79, ft_1_3, fn_1_3, ev_56, ev_0, ev_64, mz_rl d_Board_canPunch_2, mz_rl d_Board_canPunch_3, mz_rl d_Board_canPunch_4, mz_rl d_Board_canPunch_7, mz_rl d_Board_canPunch_10, mz_rl d_Board_canPunch_11, mz_rl d_Board_canPunch_56, mz_rl d_Board_canPunch_57, j_Board_canPunch_7, nF_1, h.1, nI_leI (show w < 2 ^ 31 by omega) (show i < 2 ^ 31 by omega), show ¬ w ≤ i by omega]
    refine mz_callV (by simp only [d_Board_canPunch_12, Nat.reduceAdd]) g_1_45 rfl (fun _ _ h => h) (c_Board_isFromExit G X n f h hok hlt) h.1 rfl rfl (by decide) (Nat.le_of_ble_eq_true rfl) rfl ?_; intro v_ n_ f_ h_; obtain ⟨rfl, hn_, hf_⟩ := h_; replace hn_ := hn_.symm; replace hf_ := hf_.symm; subst hn_; subst hf_
    refine mz_go [39, 50] 20 ?_
    simp only [mz_r0, mk_lit, mk_fin, mk_cat, mk_fit, mk_nar, mk_cls, mk_ty, mk_isr, List.mem_cons, List.not_mem_nil, or_false, or_true, false_or, true_or, Nat.reduceEqDiff, Nat.reduceAdd, Nat.reduceSub, Nat.reduceLT, Nat.reduceLeDiff, ↓reduceIte, if_true, if_false, List.getElem?_cons_zero, List.getElem?_cons_succ, List.set_cons_zero, List.set_cons_succ, List.length_cons, List.length_nil, mz_s1, mz_s2, mz_cl, true_and, and_true, false_and, and_false, List.append_nil, mk_b0, mk_b1, mk_b2, mk_bn, Value.int.injEq, Option.toList_some, Option.toList_none, List.cons_append, List.nil_append, Classical.not_not, Option.some.injEq, reduceCtorEq, ne_eq, not_true_eq_false, not_false_eq_true, false_implies, true_implies, ev_51, ev_41, ev_79, ft_1_1, fn_1_1, ev_37, ev_68, ev_1, ev_56, mz_rl d_Board_canPunch_15, mz_rl d_Board_canPunch_18, mz_rl d_Board_canPunch_19, mz_rl d_Board_canPunch_22, mz_rl d_Board_canPunch_23, mz_rl d_Board_canPunch_24, mz_rl d_Board_canPunch_26, mz_rl d_Board_canPunch_29, mz_rl d_Board_canPunch_30, mz_rl d_Board_canPunch_31, mz_rl d_Board_canPunch_34, mz_rl d_Board_canPunch_35, mz_rl d_Board_canPunch_36, mz_rl d_Board_canPunch_37, mz_rl d_Board_canPunch_38, j_Board_canPunch_15, j_Board_canPunch_26, nF_1, h.1, h.2.2.1, vp_in_nI (show i < 40 by omega) (show 40 < 2 ^ 31 by decide), nI_clamp (show i < 2 ^ 31 by omega), nI_leI (show 16 < 2 ^ 31 by decide) (show T i < 2 ^ 31 by omega)]
    refine ⟨fun hf => skip (fun z => by omega), fun hf => ⟨fun hf2 => skip (fun z => by omega), fun hf2 => ?_⟩⟩
    have hsg := sgF_ok e1 (show F i < 32 by omega) (hC x hx).2.2
    refine mz_callV (by simp only [d_Board_canPunch_39, Nat.reduceAdd]) g_1_52 rfl (fun _ _ h => h) (c_Board_signFrom G X n f h hok hlt hC hx) h.1 rfl rfl (by decide) (Nat.le_of_ble_eq_true rfl) rfl ?_; intro v_ n_ f_ h_; obtain ⟨rfl, hn_, hf_⟩ := h_; replace hn_ := hn_.symm; replace hf_ := hf_.symm; subst hn_; subst hf_
    refine mz_callV (by simp only [d_Board_canPunch_42, Nat.reduceAdd]) g_1_67 rfl (fun _ _ h => h) (c_Card_canTake G X n f qy.1 qy.2.1 (show T i < 16 by omega) (qy.2.2 _ (by omega)) (by have := sg_lt hsg; omega)) qy.1 rfl rfl (by decide) (Nat.le_of_ble_eq_true rfl) rfl ?_; intro v_ n_ f_ h_; obtain ⟨rfl, hn_, hf_⟩ := h_; replace hn_ := hn_.symm; replace hf_ := hf_.symm; subst hn_; subst hf_
    refine mz_go [50] 20 ?_
    simp only [mz_r0, mk_lit, mk_fin, mk_cat, mk_fit, mk_nar, mk_cls, mk_ty, mk_isr, List.mem_cons, List.not_mem_nil, or_false, or_true, false_or, true_or, Nat.reduceEqDiff, Nat.reduceAdd, Nat.reduceSub, Nat.reduceLT, Nat.reduceLeDiff, ↓reduceIte, if_true, if_false, List.getElem?_cons_zero, List.getElem?_cons_succ, List.set_cons_zero, List.set_cons_succ, List.length_cons, List.length_nil, mz_s1, mz_s2, mz_cl, true_and, and_true, false_and, and_false, List.append_nil, mk_b0, mk_b1, mk_b2, mk_bn, Value.int.injEq, Option.toList_some, Option.toList_none, List.cons_append, List.nil_append, Classical.not_not, Option.some.injEq, reduceCtorEq, ne_eq, not_true_eq_false, not_false_eq_true, false_implies, true_implies, ev_51, ev_0, ev_64, mz_rl d_Board_canPunch_45, mz_rl d_Board_canPunch_48, mz_rl d_Board_canPunch_49, j_Board_canPunch_45, nF_1]
    refine ⟨fun hf3 => skip (fun z => z.2.2 hf3), fun hf3 => ?_⟩
    rw [if_pos ⟨by omega, by omega, hf3⟩] at hR
    rw [← hR]; simp
theorem c_Board_canPunch (G : mz_G) (X : mz_E) (n : Nat) (f : mz_H) {b w x y K : Nat} {F T L : Nat → Nat} {s : Nat → Nat → Nat} (h : Bd f b w F T L) (hok : BdOk w F T L) (hC : Cd f K s) (hx : x < K) (hy : y < K) :
    mz_Ct G X y_Board_canPunch b_Board_canPunch 4 (some .boolean) (r_Board_canPunch 0 0) [.ref b, .ref (172 + 2 * x), .ref (172 + 2 * y)] n f (fun v n' f' => v = some (.int (mk_b (cpB F T (s x) (s y) 0 w = true))) ∧ n' = n ∧ f' = f) := by
  refine mk_Ct 1 false [some (.ref b), some (.ref (172 + 2 * x)), some (.ref (172 + 2 * y)), none] (by decide) rfl (by decide) (Nat.le_of_ble_eq_true rfl) rfl ?_
  refine mz_go [2] 6 ?_
  simp only [mz_r0, mk_lit, mk_fin, mk_cat, mk_fit, mk_nar, mk_cls, mk_ty, mk_isr, List.mem_cons, List.not_mem_nil, or_false, or_true, false_or, true_or, Nat.reduceEqDiff, Nat.reduceAdd, Nat.reduceSub, Nat.reduceLT, Nat.reduceLeDiff, ↓reduceIte, if_true, if_false, List.getElem?_cons_zero, List.getElem?_cons_succ, List.set_cons_zero, List.set_cons_succ, List.length_cons, List.length_nil, mz_s1, mz_s2, mz_cl, true_and, and_true, false_and, and_false, List.append_nil, mk_b0, mk_b1, mk_b2, mk_bn, Value.int.injEq, Option.toList_some, Option.toList_none, List.cons_append, List.nil_append, Classical.not_not, Option.some.injEq, reduceCtorEq, ne_eq, not_true_eq_false, not_false_eq_true, false_implies, true_implies, ev_0, ev_43, mz_rl d_Board_canPunch_0, mz_rl d_Board_canPunch_1, nF_1]
  exact l_Board_canPunch G X n f h hok hC hx hy _ w 0 (by omega) rfl
/-- how many levels break -/
def lbN (F T : Nat → Nat) (a c : Nat → Nat) : Nat → Nat
  | 0 => 0
  | i + 1 => if 96 ≤ T i ∧ T i < 99 ∧ F i < 16 ∧ c (F i) ≠ a (F i) then max (lbN F T a c i) (T i - 96 + 1) else lbN F T a c i
theorem lbN_le {F T a c : Nat → Nat} : ∀ i, lbN F T a c i ≤ 3 := by
  intro i
  induction i with
  | zero => exact Nat.zero_le _
  | succ i ih => unfold lbN; split; omega; exact ih
set_option maxRecDepth 4000 in
theorem l_Board_levelsBroken (G : mz_G) (X : mz_E) (n : Nat) (f : mz_H) {b w x y K : Nat} {F T L : Nat → Nat} {s : Nat → Nat → Nat} (h : Bd f b w F T L) (hok : BdOk w F T L) (hC : Cd f K s) (hx : x < K) (hy : y < K) :
    ∀ m i w5, i + m = w → mz_X G X 1 false b_Board_levelsBroken 6 (some .int) (r_Board_levelsBroken 0 0) (fun v n' f' => v = some (.int (nI (lbN F T (s x) (s y) w))) ∧ n' = n ∧ f' = f) (fun _ _ _ => False) 5 [some (.ref b), some (.ref (172 + 2 * x)), some (.ref (172 + 2 * y)), some (.int (nI (lbN F T (s x) (s y) i))), some (.int (nI i)), w5] [] 0 0 n f := by
  have hw := hok.1
  intro m
  induction m with
  | zero =>
    intro i w5 hi
    have : i = w := by omega
    subst this
    refine mz_go [5] 12 ?_
    simp only [mz_r0, mk_lit, mk_fin, mk_cat, mk_fit, mk_nar, mk_cls, mk_ty, mk_isr, List.mem_cons, List.not_mem_nil, or_false, or_true, false_or, true_or, Nat.reduceEqDiff, Nat.reduceAdd, Nat.reduceSub, Nat.reduceLT, Nat.reduceLeDiff, ↓reduceIte, if_true, if_false, List.getElem?_cons_zero, List.getElem?_cons_succ, List.set_cons_zero, List.set_cons_succ, List.length_cons, List.length_nil, mz_s1, mz_s2, mz_cl, true_and, and_true, false_and, and_false, List.append_nil, mk_b0, mk_b1, mk_b2, mk_bn, Value.int.injEq, Option.toList_some, Option.toList_none, List.cons_append, List.nil_append, Classical.not_not, Option.some.injEq, reduceCtorEq, ne_eq, not_true_eq_false, not_false_eq_true, false_implies, true_implies, ev_36, ev_41, ev_79, ft_1_3, fn_1_3, ev_56, ft_1_1, fn_1_1, ev_68, ev_1, ev_54, ev_0, ev_61, ev_42, ev_49, ft_1_0, fn_1_0, ft_2_0, fn_2_0, ev_50, ev_37, ev_6, ev_5, ev_48, ev_64, mz_rl d_Board_levelsBroken_5, mz_rl d_Board_levelsBroken_7, mz_rl d_Board_levelsBroken_8, mz_rl d_Board_levelsBroken_11, mz_rl d_Board_levelsBroken_14, mz_rl d_Board_levelsBroken_15, mz_rl d_Board_levelsBroken_18, mz_rl d_Board_levelsBroken_20, mz_rl d_Board_levelsBroken_21, mz_rl d_Board_levelsBroken_23, mz_rl d_Board_levelsBroken_26, mz_rl d_Board_levelsBroken_27, mz_rl d_Board_levelsBroken_30, mz_rl d_Board_levelsBroken_32, mz_rl d_Board_levelsBroken_33, mz_rl d_Board_levelsBroken_35, mz_rl d_Board_levelsBroken_38, mz_rl d_Board_levelsBroken_39, mz_rl d_Board_levelsBroken_42, mz_rl d_Board_levelsBroken_43, mz_rl d_Board_levelsBroken_45, mz_rl d_Board_levelsBroken_47, mz_rl d_Board_levelsBroken_50, mz_rl d_Board_levelsBroken_51, mz_rl d_Board_levelsBroken_54, mz_rl d_Board_levelsBroken_56, mz_rl d_Board_levelsBroken_57, mz_rl d_Board_levelsBroken_59, mz_rl d_Board_levelsBroken_62, mz_rl d_Board_levelsBroken_63, mz_rl d_Board_levelsBroken_66, mz_rl d_Board_levelsBroken_67, mz_rl d_Board_levelsBroken_70, mz_rl d_Board_levelsBroken_72, mz_rl d_Board_levelsBroken_73, mz_rl d_Board_levelsBroken_74, mz_rl d_Board_levelsBroken_75, mz_rl d_Board_levelsBroken_78, mz_rl d_Board_levelsBroken_79, mz_rl d_Board_levelsBroken_82, mz_rl d_Board_levelsBroken_84, mz_rl d_Board_levelsBroken_85, mz_rl d_Board_levelsBroken_86, mz_rl d_Board_levelsBroken_89, mz_rl d_Board_levelsBroken_90, mz_rl d_Board_levelsBroken_91, mz_rl d_Board_levelsBroken_94, mz_rl d_Board_levelsBroken_96, mz_rl d_Board_levelsBroken_97, mz_rl d_Board_levelsBroken_99, mz_rl d_Board_levelsBroken_100, mz_rl d_Board_levelsBroken_101, mz_rl d_Board_levelsBroken_102, mz_rl d_Board_levelsBroken_106, mz_rl d_Board_levelsBroken_109, mz_rl d_Board_levelsBroken_112, mz_rl d_Board_levelsBroken_113, j_Board_levelsBroken_11, j_Board_levelsBroken_23, j_Board_levelsBroken_35, j_Board_levelsBroken_39, j_Board_levelsBroken_47, j_Board_levelsBroken_59, j_Board_levelsBroken_86, j_Board_levelsBroken_109, nF_1, h.1, nI_leI (show i < 2 ^ 31 by omega) (show i < 2 ^ 31 by omega), Nat.le_refl]
  | succ m ih =>
    intro i w5 hi
    have hlt : i < w := by omega
    have e1 := okF_lt (hok.2.1 i hlt).1
    have e2 := okT_lt (hok.2.1 i hlt).2
    have qx := hC x hx
    have qy := hC y hy
    have hl := lbN_le (F := F) (T := T) (a := s x) (c := s y) i
    have ih' := fun w5 => ih (i + 1) w5 (by omega)
    have hnext : lbN F T (s x) (s y) (i + 1) = if 96 ≤ T i ∧ T i < 99 ∧ F i < 16 ∧ s y (F i) ≠ s x (F i) then max (lbN F T (s x) (s y) i) (T i - 96 + 1) else lbN F T (s x) (s y) i := rfl
    rw [hnext] at ih'
    have skip : ∀ w5, ¬ (96 ≤ T i ∧ T i < 99 ∧ F i < 16 ∧ s y (F i) ≠ s x (F i)) → mz_X G X 1 false b_Board_levelsBroken 6 (some .int) (r_Board_levelsBroken 0 0) (fun v n' f' => v = some (.int (nI (lbN F T (s x) (s y) w))) ∧ n' = n ∧ f' = f) (fun _ _ _ => False) 106 [some (.ref b), some (.ref (172 + 2 * x)), some (.ref (172 + 2 * y)), some (.int (nI (lbN F T (s x) (s y) i))), some (.int (nI i)), w5] [] 0 0 n f := by
      intro w5 hno
      have := ih' w5
      rw [if_neg hno] at this
      refine mz_go [5] 12 ?_
      simp only [mz_r0, mk_lit, mk_fin, mk_cat, mk_fit, mk_nar, mk_cls, mk_ty, mk_isr, List.mem_cons, List.not_mem_nil, or_false, or_true, false_or, true_or, Nat.reduceEqDiff, Nat.reduceAdd, Nat.reduceSub, Nat.reduceLT, Nat.reduceLeDiff, ↓reduceIte, if_true, if_false, List.getElem?_cons_zero, List.getElem?_cons_succ, List.set_cons_zero, List.set_cons_succ, List.length_cons, List.length_nil, mz_s1, mz_s2, mz_cl, true_and, and_true, false_and, and_false, List.append_nil, mk_b0, mk_b1, mk_b2, mk_bn, Value.int.injEq, Option.toList_some, Option.toList_none, List.cons_append, List.nil_append, Classical.not_not, Option.some.injEq, reduceCtorEq, ne_eq, not_true_eq_false, not_false_eq_true, false_implies, true_implies, ev_48, ev_61, mz_rl d_Board_levelsBroken_106, mz_rl d_Board_levelsBroken_109, j_Board_levelsBroken_109, nF_1, nI_add]
      exact this
    refine mz_go [45] 40 ?_
    simp only [mz_r0, mk_lit, mk_fin, mk_cat, mk_fit, mk_nar, mk_cls, mk_ty, mk_isr, List.mem_cons, List.not_mem_nil, or_false, or_true, false_or, true_or, Nat.reduceEqDiff, Nat.reduceAdd, Nat.reduceSub, Nat.reduceLT, Nat.reduceLeDiff, ↓reduceIte, if_true, if_false, List.getElem?_cons_zero, List.getElem?_cons_succ, List.set_cons_zero, List.set_cons_succ, List.length_cons, List.length_nil, mz_s1, mz_s2, mz_cl, true_and, and_true, false_and, and_false, List.append_nil, mk_b0, mk_b1, mk_b2, mk_bn, Value.int.injEq, Option.toList_some, Option.toList_none, List.cons_append, List.nil_append, Classical.not_not, Option.some.injEq, reduceCtorEq, ne_eq, not_true_eq_false, not_false_eq_true, false_implies, true_implies, ev_36, ev_41, ev_79, ft_1_3, fn_1_3, ev_56, ft_1_1, fn_1_1, ev_68, ev_1, ev_54, ev_0, ev_61, ev_42, ev_37, ev_64, mz_rl d_Board_levelsBroken_5, mz_rl d_Board_levelsBroken_7, mz_rl d_Board_levelsBroken_8, mz_rl d_Board_levelsBroken_11, mz_rl d_Board_levelsBroken_14, mz_rl d_Board_levelsBroken_15, mz_rl d_Board_levelsBroken_18, mz_rl d_Board_levelsBroken_20, mz_rl d_Board_levelsBroken_21, mz_rl d_Board_levelsBroken_23, mz_rl d_Board_levelsBroken_26, mz_rl d_Board_levelsBroken_27, mz_rl d_Board_levelsBroken_30, mz_rl d_Board_levelsBroken_32, mz_rl d_Board_levelsBroken_33, mz_rl d_Board_levelsBroken_35, mz_rl d_Board_levelsBroken_38, mz_rl d_Board_levelsBroken_39, mz_rl d_Board_levelsBroken_42, mz_rl d_Board_levelsBroken_43, mz_rl d_Board_levelsBroken_112, mz_rl d_Board_levelsBroken_113, j_Board_levelsBroken_11, j_Board_levelsBroken_23, j_Board_levelsBroken_35, j_Board_levelsBroken_39, nF_1, h.1, h.2.2.1, nI_leI (show w < 2 ^ 31 by omega) (show i < 2 ^ 31 by omega), show ¬ w ≤ i by omega, vp_in_nI (show i < 40 by omega) (show 40 < 2 ^ 31 by decide), nI_clamp (show i < 2 ^ 31 by omega), nI_ltI (show T i < 2 ^ 31 by omega) (show 96 < 2 ^ 31 by decide), nI_leI (show 99 < 2 ^ 31 by decide) (show T i < 2 ^ 31 by omega)]
    have z0 : nI 0 = 0 := by decide
    have z1 : ¬ nI 1 = 0 := by decide
    refine ⟨fun hf => ?_, fun hf => ⟨fun hf2 => ?_, fun hf2 => ?_⟩⟩
    · refine mz_go [106] 12 ?_
      simp only [mz_r0, mk_lit, mk_fin, mk_cat, mk_fit, mk_nar, mk_cls, mk_ty, mk_isr, List.mem_cons, List.not_mem_nil, or_false, or_true, false_or, true_or, Nat.reduceEqDiff, Nat.reduceAdd, Nat.reduceSub, Nat.reduceLT, Nat.reduceLeDiff, ↓reduceIte, if_true, if_false, List.getElem?_cons_zero, List.getElem?_cons_succ, List.set_cons_zero, List.set_cons_succ, List.length_cons, List.length_nil, mz_s1, mz_s2, mz_cl, true_and, and_true, false_and, and_false, List.append_nil, mk_b0, mk_b1, mk_b2, mk_bn, Value.int.injEq, Option.toList_some, Option.toList_none, List.cons_append, List.nil_append, Classical.not_not, Option.some.injEq, reduceCtorEq, ne_eq, not_true_eq_false, not_false_eq_true, false_implies, true_implies, ev_36, ev_49, ev_41, ev_79, ft_1_0, fn_1_0, ev_68, ev_1, ev_56, ft_2_0, fn_2_0, ev_50, ev_37, ft_1_1, fn_1_1, ev_6, ev_0, ev_5, mz_rl d_Board_levelsBroken_45, mz_rl d_Board_levelsBroken_47, mz_rl d_Board_levelsBroken_50, mz_rl d_Board_levelsBroken_51, mz_rl d_Board_levelsBroken_54, mz_rl d_Board_levelsBroken_56, mz_rl d_Board_levelsBroken_57, mz_rl d_Board_levelsBroken_59, mz_rl d_Board_levelsBroken_62, mz_rl d_Board_levelsBroken_63, mz_rl d_Board_levelsBroken_66, mz_rl d_Board_levelsBroken_67, mz_rl d_Board_levelsBroken_70, mz_rl d_Board_levelsBroken_72, mz_rl d_Board_levelsBroken_73, mz_rl d_Board_levelsBroken_74, mz_rl d_Board_levelsBroken_75, mz_rl d_Board_levelsBroken_78, mz_rl d_Board_levelsBroken_79, mz_rl d_Board_levelsBroken_82, mz_rl d_Board_levelsBroken_84, mz_rl d_Board_levelsBroken_85, mz_rl d_Board_levelsBroken_86, mz_rl d_Board_levelsBroken_89, mz_rl d_Board_levelsBroken_90, mz_rl d_Board_levelsBroken_91, mz_rl d_Board_levelsBroken_94, mz_rl d_Board_levelsBroken_96, mz_rl d_Board_levelsBroken_97, mz_rl d_Board_levelsBroken_99, mz_rl d_Board_levelsBroken_100, mz_rl d_Board_levelsBroken_101, mz_rl d_Board_levelsBroken_102, j_Board_levelsBroken_47, j_Board_levelsBroken_59, j_Board_levelsBroken_86, nF_1, z0]
      exact skip _ (fun z => by omega)
    · refine mz_go [106] 12 ?_
      simp only [mz_r0, mk_lit, mk_fin, mk_cat, mk_fit, mk_nar, mk_cls, mk_ty, mk_isr, List.mem_cons, List.not_mem_nil, or_false, or_true, false_or, true_or, Nat.reduceEqDiff, Nat.reduceAdd, Nat.reduceSub, Nat.reduceLT, Nat.reduceLeDiff, ↓reduceIte, if_true, if_false, List.getElem?_cons_zero, List.getElem?_cons_succ, List.set_cons_zero, List.set_cons_succ, List.length_cons, List.length_nil, mz_s1, mz_s2, mz_cl, true_and, and_true, false_and, and_false, List.append_nil, mk_b0, mk_b1, mk_b2, mk_bn, Value.int.injEq, Option.toList_some, Option.toList_none, List.cons_append, List.nil_append, Classical.not_not, Option.some.injEq, reduceCtorEq, ne_eq, not_true_eq_false, not_false_eq_true, false_implies, true_implies, ev_36, ev_49, ev_41, ev_79, ft_1_0, fn_1_0, ev_68, ev_1, ev_56, ft_2_0, fn_2_0, ev_50, ev_37, ft_1_1, fn_1_1, ev_6, ev_0, ev_5, mz_rl d_Board_levelsBroken_45, mz_rl d_Board_levelsBroken_47, mz_rl d_Board_levelsBroken_50, mz_rl d_Board_levelsBroken_51, mz_rl d_Board_levelsBroken_54, mz_rl d_Board_levelsBroken_56, mz_rl d_Board_levelsBroken_57, mz_rl d_Board_levelsBroken_59, mz_rl d_Board_levelsBroken_62, mz_rl d_Board_levelsBroken_63, mz_rl d_Board_levelsBroken_66, mz_rl d_Board_levelsBroken_67, mz_rl d_Board_levelsBroken_70, mz_rl d_Board_levelsBroken_72, mz_rl d_Board_levelsBroken_73, mz_rl d_Board_levelsBroken_74, mz_rl d_Board_levelsBroken_75, mz_rl d_Board_levelsBroken_78, mz_rl d_Board_levelsBroken_79, mz_rl d_Board_levelsBroken_82, mz_rl d_Board_levelsBroken_84, mz_rl d_Board_levelsBroken_85, mz_rl d_Board_levelsBroken_86, mz_rl d_Board_levelsBroken_89, mz_rl d_Board_levelsBroken_90, mz_rl d_Board_levelsBroken_91, mz_rl d_Board_levelsBroken_94, mz_rl d_Board_levelsBroken_96, mz_rl d_Board_levelsBroken_97, mz_rl d_Board_levelsBroken_99, mz_rl d_Board_levelsBroken_100, mz_rl d_Board_levelsBroken_101, mz_rl d_Board_levelsBroken_102, j_Board_levelsBroken_47, j_Board_levelsBroken_59, j_Board_levelsBroken_86, nF_1, z0]
      exact skip _ (fun z => by omega)
    · by_cases hF : F i < 16
      · have sx := sg_lt (qx.2.2 _ hF)
        have sy := sg_lt (qy.2.2 _ hF)
        refine mz_go [102, 106] 40 ?_
        simp only [mz_r0, mk_lit, mk_fin, mk_cat, mk_fit, mk_nar, mk_cls, mk_ty, mk_isr, List.mem_cons, List.not_mem_nil, or_false, or_true, false_or, true_or, Nat.reduceEqDiff, Nat.reduceAdd, Nat.reduceSub, Nat.reduceLT, Nat.reduceLeDiff, ↓reduceIte, if_true, if_false, List.getElem?_cons_zero, List.getElem?_cons_succ, List.set_cons_zero, List.set_cons_succ, List.length_cons, List.length_nil, mz_s1, mz_s2, mz_cl, true_and, and_true, false_and, and_false, List.append_nil, mk_b0, mk_b1, mk_b2, mk_bn, Value.int.injEq, Option.toList_some, Option.toList_none, List.cons_append, List.nil_append, Classical.not_not, Option.some.injEq, reduceCtorEq, ne_eq, not_true_eq_false, not_false_eq_true, false_implies, true_implies, ev_36, ev_49, ev_41, ev_79, ft_1_0, fn_1_0, ev_68, ev_1, ev_56, ft_2_0, fn_2_0, ev_50, ev_37, ft_1_1, fn_1_1, ev_6, ev_0, ev_5, mz_rl d_Board_levelsBroken_45, mz_rl d_Board_levelsBroken_47, mz_rl d_Board_levelsBroken_50, mz_rl d_Board_levelsBroken_51, mz_rl d_Board_levelsBroken_54, mz_rl d_Board_levelsBroken_56, mz_rl d_Board_levelsBroken_57, mz_rl d_Board_levelsBroken_59, mz_rl d_Board_levelsBroken_62, mz_rl d_Board_levelsBroken_63, mz_rl d_Board_levelsBroken_66, mz_rl d_Board_levelsBroken_67, mz_rl d_Board_levelsBroken_70, mz_rl d_Board_levelsBroken_72, mz_rl d_Board_levelsBroken_73, mz_rl d_Board_levelsBroken_74, mz_rl d_Board_levelsBroken_75, mz_rl d_Board_levelsBroken_78, mz_rl d_Board_levelsBroken_79, mz_rl d_Board_levelsBroken_82, mz_rl d_Board_levelsBroken_84, mz_rl d_Board_levelsBroken_85, mz_rl d_Board_levelsBroken_86, mz_rl d_Board_levelsBroken_89, mz_rl d_Board_levelsBroken_90, mz_rl d_Board_levelsBroken_91, mz_rl d_Board_levelsBroken_94, mz_rl d_Board_levelsBroken_96, mz_rl d_Board_levelsBroken_97, mz_rl d_Board_levelsBroken_99, mz_rl d_Board_levelsBroken_100, mz_rl d_Board_levelsBroken_101, j_Board_levelsBroken_47, j_Board_levelsBroken_59, j_Board_levelsBroken_86, nF_1, z1, h.1, h.2.1, h.2.2.1, qx.1, qx.2.1, qy.1, qy.2.1, vp_in_nI (show i < 40 by omega) (show 40 < 2 ^ 31 by decide), nI_clamp (show i < 2 ^ 31 by omega), nI_leI (show 16 < 2 ^ 31 by decide) (show F i < 2 ^ 31 by omega), show ¬ 16 ≤ F i by omega, vp_in_nI hF (show 16 < 2 ^ 31 by decide), nI_clamp (show F i < 2 ^ 31 by omega), nI_eq (show s y (F i) < 2 ^ 31 by omega) (show s x (F i) < 2 ^ 31 by omega), pk_sub (show 96 ≤ T i by omega), nI_add]
        refine ⟨fun hf3 => skip _ (fun z => z.2.2.2 hf3), fun hf3 => ?_⟩
        have hyes : 96 ≤ T i ∧ T i < 99 ∧ F i < 16 ∧ s y (F i) ≠ s x (F i) := ⟨by omega, by omega, hF, hf3⟩
        have := ih' (some (.int (nI 1)))
        rw [if_pos hyes] at this
        refine mz_mmax (by simp only [d_Board_levelsBroken, Nat.reduceAdd]) w_max_1 (by decide) (by decide) ?_
        have em : (if nI (lbN F T (s x) (s y) i) < nI (T i - 96 + 1) then nI (T i - 96 + 1) else nI (lbN F T (s x) (s y) i)) = nI (max (lbN F T (s x) (s y) i) (T i - 96 + 1)) := mk_max (by omega) (by omega)
        rw [em]
        refine mz_go [5] 12 ?_
        simp only [mz_run, ev_0, ev_1, ev_2, ev_3, ev_4, ev_5, ev_6, ev_7, ev_8, ev_9, ev_10, ev_11, ev_12, ev_13, ev_14, ev_15, ev_16, ev_17, ev_18, ev_19, ev_20, ev_21, ev_22, ev_23, ev_24, ev_25, ev_26, ev_27, ev_28, ev_29, ev_30, ev_31, ev_32, ev_33, ev_34, ev_35, ev_36, ev_37, ev_38, ev_39, ev_40, ev_41, ev_42, ev_43, ev_44, ev_45, ev_46, ev_47, ev_48, ev_49, ev_50, ev_51, ev_52, ev_53, ev_54, ev_55, ev_56, ev_57, ev_58, ev_59, ev_60, ev_61, ev_62, ev_63, ev_64, ev_65, ev_66, ev_67, ev_68, ev_69, ev_70, ev_71, ev_72, ev_73, ev_74, ev_75, ev_76, ev_77, ev_78, ev_79, ev_80, ev_81, ev_82, ev_83, mk_lit, mk_fin, mk_cat, mk_fit, mk_nar, mk_fld, mk_cls, mk_ty, mk_isr, List.mem_cons, List.not_mem_nil, or_false, or_true, false_or, true_or, Nat.reduceEqDiff, Nat.reduceAdd, Nat.reduceSub, Nat.reduceLT, Nat.reduceLeDiff, reduceIte, if_true, if_false, List.getElem?_cons_zero, List.getElem?_cons_succ, List.set_cons_zero, List.set_cons_succ, List.length_cons, List.length_nil, mz_s1, mz_s2, mz_cl, true_and, and_true, false_and, and_false, List.append_nil, mk_b0, mk_b1, mk_b2, mk_bn, Value.int.injEq, Option.toList_some, Option.toList_none, List.cons_append, List.nil_append, Classical.not_not, Option.some.injEq, reduceCtorEq, ne_eq, not_true_eq_false, not_false_eq_true, false_implies, true_implies, d_Board_levelsBroken, j_Board_levelsBroken, nF_1, nI_add]
        exact this
      · refine mz_go [106] 40 ?_
        simp only [mz_r0, mk_lit, mk_fin, mk_cat, mk_fit, mk_nar, mk_cls, mk_ty, mk_isr, List.mem_cons, List.not_mem_nil, or_false, or_true, false_or, true_or, Nat.reduceEqDiff, Nat.reduceAdd, Nat.reduceSub, Nat.reduceLT, Nat.reduceLeDiff, ↓reduceIte, if_true, if_false, List.getElem?_cons_zero, List.getElem?_cons_succ, List.set_cons_zero, List.set_cons_succ, List.length_cons, List.length_nil, mz_s1, mz_s2, mz_cl, true_and, and_true, false_and, and_false, List.append_nil, mk_b0, mk_b1, mk_b2, mk_bn, Value.int.injEq, Option.toList_some, Option.toList_none, List.cons_append, List.nil_append, Classical.not_not, Option.some.injEq, reduceCtorEq, ne_eq, not_true_eq_false, not_false_eq_true, false_implies, true_implies, ev_36, ev_49, ev_41, ev_79, ft_1_0, fn_1_0, ev_68, ev_1, ev_56, ft_2_0, fn_2_0, ev_50, ev_37, ft_1_1, fn_1_1, ev_6, ev_0, ev_5, mz_rl d_Board_levelsBroken_45, mz_rl d_Board_levelsBroken_47, mz_rl d_Board_levelsBroken_50, mz_rl d_Board_levelsBroken_51, mz_rl d_Board_levelsBroken_54, mz_rl d_Board_levelsBroken_56, mz_rl d_Board_levelsBroken_57, mz_rl d_Board_levelsBroken_59, mz_rl d_Board_levelsBroken_62, mz_rl d_Board_levelsBroken_63, mz_rl d_Board_levelsBroken_66, mz_rl d_Board_levelsBroken_67, mz_rl d_Board_levelsBroken_70, mz_rl d_Board_levelsBroken_72, mz_rl d_Board_levelsBroken_73, mz_rl d_Board_levelsBroken_74, mz_rl d_Board_levelsBroken_75, mz_rl d_Board_levelsBroken_78, mz_rl d_Board_levelsBroken_79, mz_rl d_Board_levelsBroken_82, mz_rl d_Board_levelsBroken_84, mz_rl d_Board_levelsBroken_85, mz_rl d_Board_levelsBroken_86, mz_rl d_Board_levelsBroken_89, mz_rl d_Board_levelsBroken_90, mz_rl d_Board_levelsBroken_91, mz_rl d_Board_levelsBroken_94, mz_rl d_Board_levelsBroken_96, mz_rl d_Board_levelsBroken_97, mz_rl d_Board_levelsBroken_99, mz_rl d_Board_levelsBroken_100, mz_rl d_Board_levelsBroken_101, mz_rl d_Board_levelsBroken_102, j_Board_levelsBroken_47, j_Board_levelsBroken_59, j_Board_levelsBroken_86, nF_1, z1, h.1, h.2.1, vp_in_nI (show i < 40 by omega) (show 40 < 2 ^ 31 by decide), nI_clamp (show i < 2 ^ 31 by omega), nI_leI (show 16 < 2 ^ 31 by decide) (show F i < 2 ^ 31 by omega), show 16 ≤ F i by omega]
        exact skip _ (fun z => hF z.2.2.1)
theorem c_Board_levelsBroken (G : mz_G) (X : mz_E) (n : Nat) (f : mz_H) {b w x y K : Nat} {F T L : Nat → Nat} {s : Nat → Nat → Nat} (h : Bd f b w F T L) (hok : BdOk w F T L) (hC : Cd f K s) (hx : x < K) (hy : y < K) :
    mz_Ct G X y_Board_levelsBroken b_Board_levelsBroken 6 (some .int) (r_Board_levelsBroken 0 0) [.ref b, .ref (172 + 2 * x), .ref (172 + 2 * y)] n f (fun v n' f' => v = some (.int (nI (lbN F T (s x) (s y) w))) ∧ n' = n ∧ f' = f) := by
  refine mk_Ct 1 false [some (.ref b), some (.ref (172 + 2 * x)), some (.ref (172 + 2 * y)), none, none, none] (by decide) rfl (by decide) (Nat.le_of_ble_eq_true rfl) rfl ?_
  refine mz_go [5] 6 ?_
  simp only [mz_r0, mk_lit, mk_fin, mk_cat, mk_fit, mk_nar, mk_cls, mk_ty, mk_isr, List.mem_cons, List.not_mem_nil, or_false, or_true, false_or, true_or, Nat.reduceEqDiff, Nat.reduceAdd, Nat.reduceSub, Nat.reduceLT, Nat.reduceLeDiff, ↓reduceIte, if_true, if_false, List.getElem?_cons_zero, List.getElem?_cons_succ, List.set_cons_zero, List.set_cons_succ, List.length_cons, List.length_nil, mz_s1, mz_s2, mz_cl, true_and, and_true, false_and, and_false, List.append_nil, mk_b0, mk_b1, mk_b2, mk_bn, Value.int.injEq, Option.toList_some, Option.toList_none, List.cons_append, List.nil_append, Classical.not_not, Option.some.injEq, reduceCtorEq, ne_eq, not_true_eq_false, not_false_eq_true, false_implies, true_implies, ev_0, ev_43, ev_42, mz_rl d_Board_levelsBroken_0, mz_rl d_Board_levelsBroken_1, mz_rl d_Board_levelsBroken_2, mz_rl d_Board_levelsBroken_3, nF_1]
  exact l_Board_levelsBroken G X n f h hok hC hx hy w 0 none (by omega)
end
section
/-! what comes to a jack: -1 nothing, -2 two signs that differ -/
def arS (sign s : Int32) : Int32 := if s < 0 then sign else if s = sign then sign else if sign = -1 then s else -2
def arN (F T : Nat → Nat) (t : Nat → Nat) (to : Nat) : Nat → Int32
  | 0 => -1
  | k + 1 => if F k < 32 ∧ T k = to then arS (arN F T t to k) (nI (sgF F t k)) else arN F T t to k
theorem nI_nn' : ∀ c, c < 91 → ¬ nI c < 0 ∧ nI c ≠ -1 ∧ nI c ≠ -2 := by decide +kernel
theorem nI_nn {c : Nat} (h : sg c) : ¬ nI c < 0 ∧ nI c ≠ -1 ∧ nI c ≠ -2 := nI_nn' c (sg_lt h)
theorem arS_n {sign : Int32} {c : Nat} (h : sg c) : arS sign (nI c) = if nI c = sign then sign else if sign = -1 then nI c else -2 := if_neg (nI_nn h).1
theorem arN_v {F T t : Nat → Nat} {to w : Nat} (hs : ∀ k, k < w → F k < 32 → sg (sgF F t k)) : ∀ k, k ≤ w → arN F T t to k = -1 ∨ arN F T t to k = -2 ∨ ∃ c, sg c ∧ arN F T t to k = nI c := by
  intro k
  induction k with
  | zero => intro _; exact Or.inl rfl
  | succ k ih =>
    intro hk
    have q := ih (by omega)
    unfold arN
    by_cases h : F k < 32 ∧ T k = to
    · have g := hs k (by omega) h.1
      rw [if_pos h, arS_n g]
      by_cases e : nI (sgF F t k) = arN F T t to k
      · rw [if_pos e]; exact q
      · rw [if_neg e]
        by_cases e2 : arN F T t to k = -1
        · rw [if_pos e2]; exact Or.inr (Or.inr ⟨_, g, rfl⟩)
        · rw [if_neg e2]; exact Or.inr (Or.inl rfl)
    · rw [if_neg h]; exact q
/-- the jacks q .. q + N - 1 as the wires leave them -/
theorem brC_ar {F T t : Nat → Nat} {q N w : Nat} {z : (Nat → Int32) × Int32} (hs : ∀ k, k < w → F k < 32 → sg (sgF F t k)) (z1 : ∀ p, p < N → z.1 p = -1) (z2 : z.2 = nI 0) :
    ∀ k, k ≤ w → (∀ p, p < N → (arN F T t (q + p) k = -2 ∧ (brC F T t q N k z).1 p ≠ -1) ∨ (arN F T t (q + p) k ≠ -2 ∧ (brC F T t q N k z).1 p = arN F T t (q + p) k)) ∧ (((brC F T t q N k z).2 = nI 0 ∧ ∀ p, p < N → arN F T t (q + p) k ≠ -2) ∨ ((brC F T t q N k z).2 = nI 1 ∧ ∃ p, p < N ∧ arN F T t (q + p) k = -2)) := by
  intro k
  induction k with
  | zero =>
    intro _
    refine ⟨fun p hp => Or.inr ⟨by show (-1 : Int32) ≠ -2; decide, z1 p hp⟩, Or.inl ⟨z2, fun p hp => by show (-1 : Int32) ≠ -2; decide⟩⟩
  | succ k ih =>
    intro hk
    obtain ⟨i1, i2⟩ := ih (by omega)
    obtain ⟨y, hy⟩ : ∃ y, y = brC F T t q N k z := ⟨_, rfl⟩
    rw [← hy] at i1 i2
    have eb : brC F T t q N (k + 1) z = if F k < 32 ∧ q ≤ T k ∧ T k < q + N then (upd y.1 (T k - q) (nI (sgF F t k)), if y.1 (T k - q) = -1 ∨ y.1 (T k - q) = nI (sgF F t k) then y.2 else nI 1) else y := by rw [hy]; rfl
    have ea : ∀ p, arN F T t (q + p) (k + 1) = if F k < 32 ∧ T k = q + p then arS (arN F T t (q + p) k) (nI (sgF F t k)) else arN F T t (q + p) k := fun p => rfl
    rw [eb]
    by_cases h : F k < 32 ∧ q ≤ T k ∧ T k < q + N
    · rw [if_pos h]
      have g := hs k (by omega) h.1
      obtain ⟨g1, g2, g3⟩ := nI_nn g
      have hp0 : T k - q < N := by omega
      have other : ∀ p, p ≠ T k - q → arN F T t (q + p) (k + 1) = arN F T t (q + p) k := fun p hp => by rw [ea, if_neg (by omega)]
      have here : arN F T t (q + (T k - q)) (k + 1) = if nI (sgF F t k) = arN F T t (q + (T k - q)) k then arN F T t (q + (T k - q)) k else if arN F T t (q + (T k - q)) k = -1 then nI (sgF F t k) else -2 := by rw [ea, if_pos (by omega), arS_n g]
      have keep : ∀ p, p < N → p ≠ T k - q → (arN F T t (q + p) (k + 1) = -2 ∧ upd y.1 (T k - q) (nI (sgF F t k)) p ≠ -1) ∨ (arN F T t (q + p) (k + 1) ≠ -2 ∧ upd y.1 (T k - q) (nI (sgF F t k)) p = arN F T t (q + p) (k + 1)) := fun p hp e => by
        rw [other p e, pk_un e]; exact i1 p hp
      rcases i1 (T k - q) hp0 with ⟨b1, b2⟩ | ⟨b1, b2⟩
      · have e' : arN F T t (q + (T k - q)) (k + 1) = -2 := by
          rw [here, b1, if_neg g3, if_neg (by decide)]
        refine ⟨fun p hp => ?_, ?_⟩
        · by_cases e : p = T k - q
          · subst e; exact Or.inl ⟨e', by show upd y.1 (T k - q) (nI (sgF F t k)) (T k - q) ≠ -1; rw [pk_us]; exact g2⟩
          · exact keep p hp e
        · have y2 : y.2 = nI 1 := by
            rcases i2 with ⟨_, a2⟩ | ⟨a1, _⟩
            · exact absurd b1 (a2 _ hp0)
            · exact a1
          refine Or.inr ⟨?_, _, hp0, e'⟩
          show (if y.1 (T k - q) = -1 ∨ y.1 (T k - q) = nI (sgF F t k) then y.2 else nI 1) = nI 1
          rw [y2]; exact ite_self _
      · by_cases c1 : nI (sgF F t k) = arN F T t (q + (T k - q)) k
        · have e' : arN F T t (q + (T k - q)) (k + 1) = arN F T t (q + (T k - q)) k := by rw [here, if_pos c1]
          refine ⟨fun p hp => ?_, ?_⟩
          · by_cases e : p = T k - q
            · subst e; exact Or.inr ⟨by rw [e']; exact b1, by show upd y.1 (T k - q) (nI (sgF F t k)) (T k - q) = _; rw [pk_us, e']; exact c1⟩
            · exact keep p hp e
          · have ey : (if y.1 (T k - q) = -1 ∨ y.1 (T k - q) = nI (sgF F t k) then y.2 else nI 1) = y.2 := if_pos (Or.inr (by rw [b2]; exact c1.symm))
            show ((if y.1 (T k - q) = -1 ∨ y.1 (T k - q) = nI (sgF F t k) then y.2 else nI 1) = nI 0 ∧ _) ∨ ((if y.1 (T k - q) = -1 ∨ y.1 (T k - q) = nI (sgF F t k) then y.2 else nI 1) = nI 1 ∧ _)
            rw [ey]
            have same : ∀ p, arN F T t (q + p) (k + 1) = arN F T t (q + p) k := fun p => by
              by_cases e : p = T k - q
              · rw [e]; exact e'
              · exact other p e
            rcases i2 with ⟨a1, a2⟩ | ⟨a1, p, hp, a2⟩
            · exact Or.inl ⟨a1, fun p hp => by rw [same p]; exact a2 p hp⟩
            · exact Or.inr ⟨a1, p, hp, by rw [same p]; exact a2⟩
        · by_cases c2 : arN F T t (q + (T k - q)) k = -1
          · have e' : arN F T t (q + (T k - q)) (k + 1) = nI (sgF F t k) := by rw [here, if_neg c1, if_pos c2]
            refine ⟨fun p hp => ?_, ?_⟩
            · by_cases e : p = T k - q
              · subst e; exact Or.inr ⟨by rw [e']; exact g3, by show upd y.1 (T k - q) (nI (sgF F t k)) (T k - q) = _; rw [pk_us, e']⟩
              · exact keep p hp e
            · have ey : (if y.1 (T k - q) = -1 ∨ y.1 (T k - q) = nI (sgF F t k) then y.2 else nI 1) = y.2 := if_pos (Or.inl (b2.trans c2))
              show ((if y.1 (T k - q) = -1 ∨ y.1 (T k - q) = nI (sgF F t k) then y.2 else nI 1) = nI 0 ∧ _) ∨ ((if y.1 (T k - q) = -1 ∨ y.1 (T k - q) = nI (sgF F t k) then y.2 else nI 1) = nI 1 ∧ _)
              rw [ey]
              rcases i2 with ⟨a1, a2⟩ | ⟨a1, p, hp, a2⟩
              · refine Or.inl ⟨a1, fun p hp => ?_⟩
                by_cases e : p = T k - q
                · rw [e, e']; exact g3
                · rw [other p e]; exact a2 p hp
              · refine Or.inr ⟨a1, p, hp, ?_⟩
                by_cases e : p = T k - q
                · subst e; exact absurd a2 b1
                · rw [other p e]; exact a2
          · have e' : arN F T t (q + (T k - q)) (k + 1) = -2 := by rw [here, if_neg c1, if_neg c2]
            refine ⟨fun p hp => ?_, ?_⟩
            · by_cases e : p = T k - q
              · subst e; exact Or.inl ⟨e', by show upd y.1 (T k - q) (nI (sgF F t k)) (T k - q) ≠ -1; rw [pk_us]; exact g2⟩
              · exact keep p hp e
            · refine Or.inr ⟨?_, _, hp0, e'⟩
              show (if y.1 (T k - q) = -1 ∨ y.1 (T k - q) = nI (sgF F t k) then y.2 else nI 1) = nI 1
              rw [if_neg (fun z => ?_)]
              rcases z with z | z
              · exact c2 (b2.symm.trans z)
              · exact c1 (z.symm.trans b2)
    · rw [if_neg h]
      have same : ∀ p, p < N → arN F T t (q + p) (k + 1) = arN F T t (q + p) k := fun p hp => by rw [ea, if_neg (fun z => h ⟨z.1, by omega, by omega⟩)]
      refine ⟨fun p hp => by rw [same p hp]; exact i1 p hp, ?_⟩
      rcases i2 with ⟨a1, a2⟩ | ⟨a1, p, hp, a2⟩
      · exact Or.inl ⟨a1, fun p hp => by rw [same p hp]; exact a2 p hp⟩
      · exact Or.inr ⟨a1, p, hp, by rw [same p hp]; exact a2⟩
end
