def cntP (q : Nat → Nat) (p : Nat) : Nat → Nat
  | 0 => 0
  | m + 1 => cntP q p m + if q m = p then 1 else 0
def sm (cn : Nat → Nat) : Nat → Nat
  | 0 => 0
  | p + 1 => sm cn p + cn p
def us (cn : Nat → Nat) : Nat → Nat
  | 0 => 0
  | p + 1 => us cn p + if 0 < cn p then 1 else 0
theorem cntP_le (q : Nat → Nat) (p m : Nat) : cntP q p m ≤ m := by
  induction m with
  | zero => exact Nat.le_refl _
  | succ m ih => unfold cntP; split <;> omega
theorem cntP_mono (q : Nat → Nat) (p : Nat) {i m : Nat} (h : i ≤ m) : cntP q p i ≤ cntP q p m := by
  induction h with
  | refl => exact Nat.le_refl _
  | step _ ih => exact Nat.le_trans ih (by show _ ≤ cntP q p _ + _; omega)
theorem cntP_lt (q : Nat → Nat) {i m : Nat} (h : i < m) : cntP q (q i) i < cntP q (q i) m := by
  have h1 := cntP_mono q (q i) (show i + 1 ≤ m from h)
  have h2 : cntP q (q i) (i + 1) = cntP q (q i) i + 1 := by simp [cntP]
  omega
theorem sm_mono (cn : Nat → Nat) {p r : Nat} (h : p ≤ r) : sm cn p ≤ sm cn r := by
  induction h with
  | refl => exact Nat.le_refl _
  | step _ ih => exact Nat.le_trans ih (by show _ ≤ sm cn _ + _; omega)
theorem sm_add (a b : Nat → Nat) (p : Nat) : sm (fun r => a r + b r) p = sm a p + sm b p := by
  induction p with
  | zero => rfl
  | succ p ih => simp only [sm, ih]; omega
theorem sm_one (x : Nat) (p : Nat) : sm (fun r => if x = r then 1 else 0) p = if x < p then 1 else 0 := by
  induction p with
  | zero => rfl
  | succ p ih =>
    simp only [sm, ih]
    by_cases h : x < p
    · rw [if_pos h, if_neg (by omega), if_pos (by omega)]
    · by_cases h2 : x = p
      · rw [if_neg h, if_pos h2, if_pos (by omega)]
      · rw [if_neg h, if_neg h2, if_neg (by omega)]
theorem sm_cnt {q : Nat → Nat} {P : Nat} (m : Nat) (h : ∀ i, i < m → q i < P) : sm (fun p => cntP q p m) P = m := by
  induction m with
  | zero =>
    have : ∀ p, sm (fun p => cntP q p 0) p = 0 := fun p => by
      induction p with
      | zero => rfl
      | succ p ih => simp only [sm, ih]; rfl
    exact this P
  | succ m ih =>
    have e : (fun p => cntP q p (m + 1)) = (fun p => cntP q p m + if q m = p then 1 else 0) := rfl
    rw [e, sm_add, ih (fun i hi => h i (by omega)), sm_one, if_pos (h m (by omega))]
/-- where card i of the deck comes to lie -/
def posP (q : Nat → Nat) (m i : Nat) : Nat := sm (fun p => cntP q p m) (q i) + cntP q (q i) i
theorem posP_lt {q : Nat → Nat} {P m i : Nat} (h : ∀ i, i < m → q i < P) (hi : i < m) : posP q m i < m := by
  have h1 := cntP_lt q hi
  have h2 := sm_mono (fun p => cntP q p m) (show q i + 1 ≤ P from h i hi)
  have h3 : sm (fun p => cntP q p m) (q i + 1) = sm (fun p => cntP q p m) (q i) + cntP q (q i) m := rfl
  have h4 := sm_cnt m h
  unfold posP
  omega
theorem sm_find (cn : Nat → Nat) {P r : Nat} (h : r < sm cn P) : ∃ p, p < P ∧ sm cn p ≤ r ∧ r < sm cn p + cn p := by
  induction P with
  | zero => exact absurd h (Nat.not_lt_zero _)
  | succ P ih =>
    by_cases h2 : r < sm cn P
    · obtain ⟨p, a, b⟩ := ih h2
      exact ⟨p, by omega, b⟩
    · exact ⟨P, by omega, by omega, h⟩
theorem cnt_find (q : Nat → Nat) (p : Nat) {m t : Nat} (h : t < cntP q p m) : ∃ i, i < m ∧ q i = p ∧ cntP q p i = t := by
  induction m with
  | zero => exact absurd h (Nat.not_lt_zero _)
  | succ m ih =>
    by_cases h2 : t < cntP q p m
    · obtain ⟨i, a, b⟩ := ih h2
      exact ⟨i, by omega, b⟩
    · unfold cntP at h
      by_cases h3 : q m = p
      · rw [if_pos h3] at h
        exact ⟨m, by omega, h3, by omega⟩
      · rw [if_neg h3] at h; omega
theorem posP_onto {q : Nat → Nat} {P m r : Nat} (h : ∀ i, i < m → q i < P) (hr : r < m) : ∃ i, i < m ∧ posP q m i = r := by
  obtain ⟨p, -, h2, h3⟩ := sm_find (fun p => cntP q p m) (show r < sm (fun p => cntP q p m) P by rw [sm_cnt m h]; exact hr)
  obtain ⟨i, a, b, d⟩ := cnt_find q p (show r - sm (fun p => cntP q p m) p < cntP q p m by omega)
  refine ⟨i, a, ?_⟩
  unfold posP
  rw [b, d]; omega
def stk (c : Nat → Nat) (pos : Nat → Nat) (T : Nat → Option Nat) : Nat → Nat → Option Nat
  | 0 => T
  | i + 1 => va_up (stk c pos T i) (pos i) (some (172 + 2 * c i))
theorem stk_at (c pos : Nat → Nat) (T : Nat → Option Nat) (m r : Nat) (h : ∃ i, i < m ∧ pos i = r) : ∃ i, i < m ∧ pos i = r ∧ stk c pos T m r = some (172 + 2 * c i) := by
  induction m with
  | zero => obtain ⟨i, a, -⟩ := h; exact absurd a (Nat.not_lt_zero _)
  | succ m ih =>
    unfold stk va_up
    by_cases e : r = pos m
    · exact ⟨m, by omega, e.symm, by rw [if_pos e]⟩
    · obtain ⟨i, a, b⟩ := h
      have hi : i ≠ m := by rintro rfl; exact e b.symm
      obtain ⟨i2, a2, b2, d2⟩ := ih ⟨i, by omega, b⟩
      exact ⟨i2, by omega, b2, by rw [if_neg e]; exact d2⟩
theorem pok_lt {s : Nat → Nat → Nat} {col : Nat} {z : Bool} {x : Nat} (h : sg (s x col)) : pk s col z x < 11 := by
  unfold pk
  cases z
  · exact dp_lt h
  · have := zn_lt (s x col)
    show zn _ < 11
    omega
theorem upd_cnt {q : Nat → Nat} {g : Nat → Int32} {i : Nat} (A : Nat → Nat) (hq : q i < 11) : upd (cpy (fun p => nI (A p + cntP q p i)) g 11) (q i) (nI (A (q i) + cntP q (q i) i + 1)) = cpy (fun p => nI (A p + cntP q p (i + 1))) g 11 := by
  funext j
  unfold upd cpy
  by_cases e : j = q i
  · subst e
    rw [if_pos rfl, if_pos hq]
    simp [cntP, Nat.add_assoc]
  · rw [if_neg e]
    by_cases h : j < 11
    · rw [if_pos h, if_pos h]
      have : ¬ q i = j := fun z => e z.symm
      simp [cntP, this]
    · rw [if_neg h, if_neg h]
theorem l_Sorter_fillPockets (G : mz_G) (X : mz_E) (n : Nat) (f : mz_H) {d a sz col K : Nat} {p7 : Value} {ps : Value} {g : Nat → Option Nat} {gp : Nat → Int32} {s : Nat → Nat → Nat} {c : Nat → Nat} {z : Bool} (h0 : f 5 = .inr (9, [.ref 6, p7, ps])) (h1 : f d = .inr (4, [.ref a, .int (nI sz)])) (h2 : f a = aQ 6 200 g) (h6 : f 6 = aI 11 gp) (hs : sz ≤ 200) (hC : Cd f K s) (hP : Ps g sz c K) (hc : col < 16) :
    ∀ m i, i + m = sz → mz_X G X 9 false b_Sorter_fillPockets 5 none (r_Sorter_fillPockets 0 0) (fun v n' f' => v = none ∧ n' = n ∧ f' = mz_u f 6 (aI 11 (cpy (fun p => nI (0 + cntP (fun i => pk s col z (c i)) p sz)) gp 11))) (fun _ _ _ => False) 11 [some (.ref 5), some (.ref d), some (.int (nI col)), some (.int (mk_b (z = true))), some (.int (nI i))] [] 0 0 n (mz_u f 6 (aI 11 (cpy (fun p => nI (0 + cntP (fun i => pk s col z (c i)) p i)) gp 11))) := by
  have hd6 : d ≠ 6 := by rintro rfl; rw [h1] at h6; cases h6
  have ha6 : a ≠ 6 := by rintro rfl; rw [h2] at h6; cases h6
  intro m
  induction m with
  | zero =>
    intro i hi
    refine mz_go [11] 12 ?_
    simp only [mz_r0, ev_0, ev_1, ev_2, ev_3, ev_4, ev_5, ev_6, ev_7, ev_8, ev_9, ev_10, ev_11, ev_12, ev_13, ev_14, ev_15, ev_16, ev_17, ev_18, ev_19, ev_20, ev_21, ev_22, ev_23, ev_24, ev_25, ev_26, ev_27, ev_28, ev_29, ev_30, ev_31, ev_32, ev_33, ev_34, ev_35, ev_36, ev_37, ev_38, ev_39, ev_40, ev_41, ev_42, ev_43, ev_44, ev_45, ev_46, ev_47, ev_48, ev_49, ev_50, ev_51, ev_52, ev_53, ev_54, ev_55, ev_56, ev_57, ev_58, ev_59, ev_60, ev_61, ev_62, ev_63, ev_64, ev_65, ev_66, ev_67, ev_68, ev_69, ev_70, ev_71, ev_72, ev_73, ev_74, ev_75, ev_76, ev_77, ev_78, ev_79, ev_80, ev_81, ev_82, ev_83, mk_lit, mk_fin, mk_cat, mk_fit, mk_nar, mk_fld, mk_cls, mk_ty, mk_isr, List.mem_cons, List.not_mem_nil, or_false, or_true, false_or, true_or, Nat.reduceEqDiff, Nat.reduceAdd, Nat.reduceSub, Nat.reduceLT, Nat.reduceLeDiff, ↓reduceIte, if_true, if_false, List.getElem?_cons_zero, List.getElem?_cons_succ, List.set_cons_zero, List.set_cons_succ, List.length_cons, List.length_nil, mz_s1, mz_s2, mz_cl, true_and, and_true, false_and, and_false, List.append_nil, mk_b0, mk_b1, mk_b2, mk_bn, Value.int.injEq, Option.toList_some, Option.toList_none, List.cons_append, List.nil_append, Classical.not_not, Option.some.injEq, reduceCtorEq, ne_eq, not_true_eq_false, not_false_eq_true, false_implies, true_implies, mz_rl d_Sorter_fillPockets_11, mz_rl d_Sorter_fillPockets_13, mz_rl d_Sorter_fillPockets_14, mz_rl d_Sorter_fillPockets_17, mz_rl d_Sorter_fillPockets_20, mz_rl d_Sorter_fillPockets_21, mz_rl d_Sorter_fillPockets_24, mz_rl d_Sorter_fillPockets_25, mz_rl d_Sorter_fillPockets_27, mz_rl d_Sorter_fillPockets_46, j_Sorter_fillPockets_17, nF_9, h1, mz_u_n hd6, nI_leI (show sz < 2 ^ 31 by omega) (show i < 2 ^ 31 by omega)]
    refine ⟨fun _ => ?_, fun h => absurd (show sz ≤ i by omega) h⟩
    rw [show i = sz by omega]
  | succ m ih =>
    intro i hi
    have hlt : i < sz := by omega
    have e1 := hP i hlt
    have hC' := Cd_u hC (show 6 < 172 by decide) (aI 11 (cpy (fun p => nI (0 + cntP (fun i => pk s col z (c i)) p i)) gp 11))
    have hq : pk s col z (c i) < 11 := pok_lt ((hC _ e1.2).2.2 col hc)
    refine mz_go [27] 20 ?_
    simp only [mz_r0, ev_0, ev_1, ev_2, ev_3, ev_4, ev_5, ev_6, ev_7, ev_8, ev_9, ev_10, ev_11, ev_12, ev_13, ev_14, ev_15, ev_16, ev_17, ev_18, ev_19, ev_20, ev_21, ev_22, ev_23, ev_24, ev_25, ev_26, ev_27, ev_28, ev_29, ev_30, ev_31, ev_32, ev_33, ev_34, ev_35, ev_36, ev_37, ev_38, ev_39, ev_40, ev_41, ev_42, ev_43, ev_44, ev_45, ev_46, ev_47, ev_48, ev_49, ev_50, ev_51, ev_52, ev_53, ev_54, ev_55, ev_56, ev_57, ev_58, ev_59, ev_60, ev_61, ev_62, ev_63, ev_64, ev_65, ev_66, ev_67, ev_68, ev_69, ev_70, ev_71, ev_72, ev_73, ev_74, ev_75, ev_76, ev_77, ev_78, ev_79, ev_80, ev_81, ev_82, ev_83, mk_lit, mk_fin, mk_cat, mk_fit, mk_nar, mk_fld, mk_cls, mk_ty, mk_isr, List.mem_cons, List.not_mem_nil, or_false, or_true, false_or, true_or, Nat.reduceEqDiff, Nat.reduceAdd, Nat.reduceSub, Nat.reduceLT, Nat.reduceLeDiff, ↓reduceIte, if_true, if_false, List.getElem?_cons_zero, List.getElem?_cons_succ, List.set_cons_zero, List.set_cons_succ, List.length_cons, List.length_nil, mz_s1, mz_s2, mz_cl, true_and, and_true, false_and, and_false, List.append_nil, mk_b0, mk_b1, mk_b2, mk_bn, Value.int.injEq, Option.toList_some, Option.toList_none, List.cons_append, List.nil_append, Classical.not_not, Option.some.injEq, reduceCtorEq, ne_eq, not_true_eq_false, not_false_eq_true, false_implies, true_implies, mz_rl d_Sorter_fillPockets_11, mz_rl d_Sorter_fillPockets_13, mz_rl d_Sorter_fillPockets_14, mz_rl d_Sorter_fillPockets_17, mz_rl d_Sorter_fillPockets_20, mz_rl d_Sorter_fillPockets_21, mz_rl d_Sorter_fillPockets_24, mz_rl d_Sorter_fillPockets_25, mz_rl d_Sorter_fillPockets_46, j_Sorter_fillPockets_17, nF_9, h0, h1, mz_u_n hd6, mz_u_n (show (5 : Nat) ≠ 6 by decide), nI_leI (show sz < 2 ^ 31 by omega) (show i < 2 ^ 31 by omega), show ¬ sz ≤ i by omega]
    refine mz_callV (by simp only [d_Sorter_fillPockets_27, Nat.reduceAdd]) g_9_38 rfl (fun _ _ h => h) (c_Deck_at G X n _ (d := d) (by rw [mz_u_n hd6]; exact h1) (by rw [mz_u_n ha6]; exact h2) (show i < 200 by omega) e1.1) (by rw [mz_u_n hd6]; exact h1) rfl rfl (by decide) (Nat.le_of_ble_eq_true rfl) rfl ?_; intro v_ n_ f_ h_; obtain ⟨rfl, hn_, hf_⟩ := h_; replace hn_ := hn_.symm; replace hf_ := hf_.symm; subst hn_; subst hf_
    refine mz_go [32] 6 ?_
    simp only [mz_r0, ev_0, ev_1, ev_2, ev_3, ev_4, ev_5, ev_6, ev_7, ev_8, ev_9, ev_10, ev_11, ev_12, ev_13, ev_14, ev_15, ev_16, ev_17, ev_18, ev_19, ev_20, ev_21, ev_22, ev_23, ev_24, ev_25, ev_26, ev_27, ev_28, ev_29, ev_30, ev_31, ev_32, ev_33, ev_34, ev_35, ev_36, ev_37, ev_38, ev_39, ev_40, ev_41, ev_42, ev_43, ev_44, ev_45, ev_46, ev_47, ev_48, ev_49, ev_50, ev_51, ev_52, ev_53, ev_54, ev_55, ev_56, ev_57, ev_58, ev_59, ev_60, ev_61, ev_62, ev_63, ev_64, ev_65, ev_66, ev_67, ev_68, ev_69, ev_70, ev_71, ev_72, ev_73, ev_74, ev_75, ev_76, ev_77, ev_78, ev_79, ev_80, ev_81, ev_82, ev_83, mk_lit, mk_fin, mk_cat, mk_fit, mk_nar, mk_fld, mk_cls, mk_ty, mk_isr, List.mem_cons, List.not_mem_nil, or_false, or_true, false_or, true_or, Nat.reduceEqDiff, Nat.reduceAdd, Nat.reduceSub, Nat.reduceLT, Nat.reduceLeDiff, ↓reduceIte, if_true, if_false, List.getElem?_cons_zero, List.getElem?_cons_succ, List.set_cons_zero, List.set_cons_succ, List.length_cons, List.length_nil, mz_s1, mz_s2, mz_cl, true_and, and_true, false_and, and_false, List.append_nil, mk_b0, mk_b1, mk_b2, mk_bn, Value.int.injEq, Option.toList_some, Option.toList_none, List.cons_append, List.nil_append, Classical.not_not, Option.some.injEq, reduceCtorEq, ne_eq, not_true_eq_false, not_false_eq_true, false_implies, true_implies, mz_rl d_Sorter_fillPockets_30, mz_rl d_Sorter_fillPockets_31, nF_9]
    refine mz_callS (by simp only [d_Sorter_fillPockets_32, Nat.reduceAdd]) g_9_42 rfl (fun _ _ h => h) (c_Sorter_pocketOf G X n _ hC' e1.2 hc z) (by decide) (Nat.le_of_ble_eq_true rfl) rfl ?_; intro v_ n_ f_ h_; obtain ⟨rfl, hn_, hf_⟩ := h_; replace hn_ := hn_.symm; replace hf_ := hf_.symm; subst hn_; subst hf_
    refine mz_go [11] 20 ?_
    simp only [mz_r0, ev_0, ev_1, ev_2, ev_3, ev_4, ev_5, ev_6, ev_7, ev_8, ev_9, ev_10, ev_11, ev_12, ev_13, ev_14, ev_15, ev_16, ev_17, ev_18, ev_19, ev_20, ev_21, ev_22, ev_23, ev_24, ev_25, ev_26, ev_27, ev_28, ev_29, ev_30, ev_31, ev_32, ev_33, ev_34, ev_35, ev_36, ev_37, ev_38, ev_39, ev_40, ev_41, ev_42, ev_43, ev_44, ev_45, ev_46, ev_47, ev_48, ev_49, ev_50, ev_51, ev_52, ev_53, ev_54, ev_55, ev_56, ev_57, ev_58, ev_59, ev_60, ev_61, ev_62, ev_63, ev_64, ev_65, ev_66, ev_67, ev_68, ev_69, ev_70, ev_71, ev_72, ev_73, ev_74, ev_75, ev_76, ev_77, ev_78, ev_79, ev_80, ev_81, ev_82, ev_83, mk_lit, mk_fin, mk_cat, mk_fit, mk_nar, mk_fld, mk_cls, mk_ty, mk_isr, List.mem_cons, List.not_mem_nil, or_false, or_true, false_or, true_or, Nat.reduceEqDiff, Nat.reduceAdd, Nat.reduceSub, Nat.reduceLT, Nat.reduceLeDiff, ↓reduceIte, if_true, if_false, List.getElem?_cons_zero, List.getElem?_cons_succ, List.set_cons_zero, List.set_cons_succ, List.length_cons, List.length_nil, mz_s1, mz_s2, mz_cl, true_and, and_true, false_and, and_false, List.append_nil, mk_b0, mk_b1, mk_b2, mk_bn, Value.int.injEq, Option.toList_some, Option.toList_none, List.cons_append, List.nil_append, Classical.not_not, Option.some.injEq, reduceCtorEq, ne_eq, not_true_eq_false, not_false_eq_true, false_implies, true_implies, mz_rl d_Sorter_fillPockets_35, mz_rl d_Sorter_fillPockets_36, mz_rl d_Sorter_fillPockets_37, mz_rl d_Sorter_fillPockets_38, mz_rl d_Sorter_fillPockets_39, mz_rl d_Sorter_fillPockets_40, mz_rl d_Sorter_fillPockets_43, j_Sorter_fillPockets_43, nF_9, mz_u_s, vp_in_nI hq (show 11 < 2 ^ 31 by decide), nI_clamp (show pk s col z (c i) < 2 ^ 31 by omega), nI_add, mz_uu, cpy_lt hq]
    rw [upd_cnt (q := fun i => pk s col z (c i)) (fun _ => 0) hq]
    exact ih (i + 1) (by omega)
theorem c_Sorter_fillPockets (G : mz_G) (X : mz_E) (n : Nat) (f : mz_H) {d a sz col K : Nat} {p7 : Value} {ps : Value} {g : Nat → Option Nat} {gp : Nat → Int32} {s : Nat → Nat → Nat} {c : Nat → Nat} (z : Bool) (h0 : f 5 = .inr (9, [.ref 6, p7, ps])) (h1 : f d = .inr (4, [.ref a, .int (nI sz)])) (h2 : f a = aQ 6 200 g) (h6 : f 6 = aI 11 gp) (hs : sz ≤ 200) (hC : Cd f K s) (hP : Ps g sz c K) (hc : col < 16) :
    mz_Ct G X y_Sorter_fillPockets b_Sorter_fillPockets 5 none (r_Sorter_fillPockets 0 0) [.ref 5, .ref d, .int (nI col), .int (mk_b (z = true))] n f (fun v n' f' => v = none ∧ n' = n ∧ f' = mz_u f 6 (aI 11 (cpy (fun p => nI (0 + cntP (fun i => pk s col z (c i)) p sz)) gp 11))) := by
  refine mk_Ct 9 false [some (.ref 5), some (.ref d), some (.int (nI col)), some (.int (mk_b (z = true))), none] (by decide) rfl (by decide) (Nat.le_of_ble_eq_true rfl) rfl ?_
  refine mz_go [5] 6 ?_
  simp only [mz_r0, ev_0, ev_1, ev_2, ev_3, ev_4, ev_5, ev_6, ev_7, ev_8, ev_9, ev_10, ev_11, ev_12, ev_13, ev_14, ev_15, ev_16, ev_17, ev_18, ev_19, ev_20, ev_21, ev_22, ev_23, ev_24, ev_25, ev_26, ev_27, ev_28, ev_29, ev_30, ev_31, ev_32, ev_33, ev_34, ev_35, ev_36, ev_37, ev_38, ev_39, ev_40, ev_41, ev_42, ev_43, ev_44, ev_45, ev_46, ev_47, ev_48, ev_49, ev_50, ev_51, ev_52, ev_53, ev_54, ev_55, ev_56, ev_57, ev_58, ev_59, ev_60, ev_61, ev_62, ev_63, ev_64, ev_65, ev_66, ev_67, ev_68, ev_69, ev_70, ev_71, ev_72, ev_73, ev_74, ev_75, ev_76, ev_77, ev_78, ev_79, ev_80, ev_81, ev_82, ev_83, mk_lit, mk_fin, mk_cat, mk_fit, mk_nar, mk_fld, mk_cls, mk_ty, mk_isr, List.mem_cons, List.not_mem_nil, or_false, or_true, false_or, true_or, Nat.reduceEqDiff, Nat.reduceAdd, Nat.reduceSub, Nat.reduceLT, Nat.reduceLeDiff, ↓reduceIte, if_true, if_false, List.getElem?_cons_zero, List.getElem?_cons_succ, List.set_cons_zero, List.set_cons_succ, List.length_cons, List.length_nil, mz_s1, mz_s2, mz_cl, true_and, and_true, false_and, and_false, List.append_nil, mk_b0, mk_b1, mk_b2, mk_bn, Value.int.injEq, Option.toList_some, Option.toList_none, List.cons_append, List.nil_append, Classical.not_not, Option.some.injEq, reduceCtorEq, ne_eq, not_true_eq_false, not_false_eq_true, false_implies, true_implies, mz_rl d_Sorter_fillPockets_0, mz_rl d_Sorter_fillPockets_1, mz_rl d_Sorter_fillPockets_4, nF_9, h0]
  refine mz_callS (by simp only [d_Sorter_fillPockets_5, Nat.reduceAdd]) g_9_61 rfl (fun _ _ h => h) (c_Arrays_fill G X n f (nI 0) h6 (by decide)) (by decide) (Nat.le_of_ble_eq_true rfl) rfl ?_; intro v_ n_ f_ h_; obtain ⟨rfl, hn_, hf_⟩ := h_; replace hn_ := hn_.symm; replace hf_ := hf_.symm; subst hn_; subst hf_
  refine mz_go [11] 6 ?_
  simp only [mz_r0, ev_0, ev_1, ev_2, ev_3, ev_4, ev_5, ev_6, ev_7, ev_8, ev_9, ev_10, ev_11, ev_12, ev_13, ev_14, ev_15, ev_16, ev_17, ev_18, ev_19, ev_20, ev_21, ev_22, ev_23, ev_24, ev_25, ev_26, ev_27, ev_28, ev_29, ev_30, ev_31, ev_32, ev_33, ev_34, ev_35, ev_36, ev_37, ev_38, ev_39, ev_40, ev_41, ev_42, ev_43, ev_44, ev_45, ev_46, ev_47, ev_48, ev_49, ev_50, ev_51, ev_52, ev_53, ev_54, ev_55, ev_56, ev_57, ev_58, ev_59, ev_60, ev_61, ev_62, ev_63, ev_64, ev_65, ev_66, ev_67, ev_68, ev_69, ev_70, ev_71, ev_72, ev_73, ev_74, ev_75, ev_76, ev_77, ev_78, ev_79, ev_80, ev_81, ev_82, ev_83, mk_lit, mk_fin, mk_cat, mk_fit, mk_nar, mk_fld, mk_cls, mk_ty, mk_isr, List.mem_cons, List.not_mem_nil, or_false, or_true, false_or, true_or, Nat.reduceEqDiff, Nat.reduceAdd, Nat.reduceSub, Nat.reduceLT, Nat.reduceLeDiff, ↓reduceIte, if_true, if_false, List.getElem?_cons_zero, List.getElem?_cons_succ, List.set_cons_zero, List.set_cons_succ, List.length_cons, List.length_nil, mz_s1, mz_s2, mz_cl, true_and, and_true, false_and, and_false, List.append_nil, mk_b0, mk_b1, mk_b2, mk_bn, Value.int.injEq, Option.toList_some, Option.toList_none, List.cons_append, List.nil_append, Classical.not_not, Option.some.injEq, reduceCtorEq, ne_eq, not_true_eq_false, not_false_eq_true, false_implies, true_implies, mz_rl d_Sorter_fillPockets_8, mz_rl d_Sorter_fillPockets_9, nF_9]
  exact l_Sorter_fillPockets G X n f h0 h1 h2 h6 hs hC hP hc sz 0 (by omega)
theorem cpy_cp (A B : Nat → Int32) (g : Nat → Int32) {p : Nat} (hp : p < 11) : upd (cpy (cpy A B p) g 11) p (A p) = cpy (cpy A B (p + 1)) g 11 := by
  funext j
  unfold upd cpy
  by_cases e : j = p
  · subst e
    rw [if_pos rfl, if_pos hp, if_pos (by omega)]
  · rw [if_neg e]
    by_cases h : j < 11
    · rw [if_pos h, if_pos h]
      by_cases h2 : j < p
      · rw [if_pos h2, if_pos (by omega)]
      · rw [if_neg h2, if_neg (by omega)]
    · rw [if_neg h, if_neg h]
theorem l_Sorter_stackPockets (G : mz_G) (X : mz_E) (n : Nat) (f : mz_H) {p7 ps : Value} {gp : Nat → Int32} {cn : Nat → Nat} (h0 : f 5 = .inr (9, [.ref 6, p7, ps])) (hcn : ∀ p, p < 11 → cn p < 2 ^ 31) (w4 : Option Value) :
    ∀ m p w4, p + m = 11 → mz_X G X 9 false b_Sorter_stackPockets 5 (some .int) (r_Sorter_stackPockets 0 0) (fun v n' f' => v = some (.int (nI (us cn 11))) ∧ n' = n ∧ f' = mz_u f 6 (aI 11 (cpy (cpy (fun r => nI (sm cn r)) (fun r => nI (cn r)) 11) gp 11))) (fun _ _ _ => False) 6 [some (.ref 5), some (.int (nI (us cn p))), some (.int (nI (sm cn p))), some (.int (nI p)), w4] [] 0 0 n (mz_u f 6 (aI 11 (cpy (cpy (fun r => nI (sm cn r)) (fun r => nI (cn r)) p) gp 11))) := by
  intro m
  induction m with
  | zero =>
    intro p w4 hp
    have : p = 11 := by omega
    subst this
    refine mz_go [6] 12 ?_
    simp only [mz_r0, ev_0, ev_1, ev_2, ev_3, ev_4, ev_5, ev_6, ev_7, ev_8, ev_9, ev_10, ev_11, ev_12, ev_13, ev_14, ev_15, ev_16, ev_17, ev_18, ev_19, ev_20, ev_21, ev_22, ev_23, ev_24, ev_25, ev_26, ev_27, ev_28, ev_29, ev_30, ev_31, ev_32, ev_33, ev_34, ev_35, ev_36, ev_37, ev_38, ev_39, ev_40, ev_41, ev_42, ev_43, ev_44, ev_45, ev_46, ev_47, ev_48, ev_49, ev_50, ev_51, ev_52, ev_53, ev_54, ev_55, ev_56, ev_57, ev_58, ev_59, ev_60, ev_61, ev_62, ev_63, ev_64, ev_65, ev_66, ev_67, ev_68, ev_69, ev_70, ev_71, ev_72, ev_73, ev_74, ev_75, ev_76, ev_77, ev_78, ev_79, ev_80, ev_81, ev_82, ev_83, mk_lit, mk_fin, mk_cat, mk_fit, mk_nar, mk_fld, mk_cls, mk_ty, mk_isr, List.mem_cons, List.not_mem_nil, or_false, or_true, false_or, true_or, Nat.reduceEqDiff, Nat.reduceAdd, Nat.reduceSub, Nat.reduceLT, Nat.reduceLeDiff, ↓reduceIte, if_true, if_false, List.getElem?_cons_zero, List.getElem?_cons_succ, List.set_cons_zero, List.set_cons_succ, List.length_cons, List.length_nil, mz_s1, mz_s2, mz_cl, true_and, and_true, false_and, and_false, List.append_nil, mk_b0, mk_b1, mk_b2, mk_bn, Value.int.injEq, Option.toList_some, Option.toList_none, List.cons_append, List.nil_append, Classical.not_not, Option.some.injEq, reduceCtorEq, ne_eq, not_true_eq_false, not_false_eq_true, false_implies, true_implies, mz_rl d_Sorter_stackPockets_6, mz_rl d_Sorter_stackPockets_7, mz_rl d_Sorter_stackPockets_9, mz_rl d_Sorter_stackPockets_12, mz_rl d_Sorter_stackPockets_13, mz_rl d_Sorter_stackPockets_16, mz_rl d_Sorter_stackPockets_17, mz_rl d_Sorter_stackPockets_18, mz_rl d_Sorter_stackPockets_20, mz_rl d_Sorter_stackPockets_22, mz_rl d_Sorter_stackPockets_25, mz_rl d_Sorter_stackPockets_28, mz_rl d_Sorter_stackPockets_29, mz_rl d_Sorter_stackPockets_32, mz_rl d_Sorter_stackPockets_33, mz_rl d_Sorter_stackPockets_34, mz_rl d_Sorter_stackPockets_35, mz_rl d_Sorter_stackPockets_36, mz_rl d_Sorter_stackPockets_38, mz_rl d_Sorter_stackPockets_39, mz_rl d_Sorter_stackPockets_40, mz_rl d_Sorter_stackPockets_43, mz_rl d_Sorter_stackPockets_46, mz_rl d_Sorter_stackPockets_47, j_Sorter_stackPockets_9, j_Sorter_stackPockets_22, j_Sorter_stackPockets_43, nF_9, mk_le, mk_ti, Int.le_refl]
  | succ m ih =>
    intro p w4 hp
    have hp11 : p < 11 := by omega
    have hk := hcn p hp11
    have e1 : cpy (fun r => nI (sm cn r)) (fun r => nI (cn r)) p p = nI (cn p) := cpy_ge (Nat.le_refl p)
    refine mz_go [6] 30 ?_
    simp only [mz_r0, ev_0, ev_1, ev_2, ev_3, ev_4, ev_5, ev_6, ev_7, ev_8, ev_9, ev_10, ev_11, ev_12, ev_13, ev_14, ev_15, ev_16, ev_17, ev_18, ev_19, ev_20, ev_21, ev_22, ev_23, ev_24, ev_25, ev_26, ev_27, ev_28, ev_29, ev_30, ev_31, ev_32, ev_33, ev_34, ev_35, ev_36, ev_37, ev_38, ev_39, ev_40, ev_41, ev_42, ev_43, ev_44, ev_45, ev_46, ev_47, ev_48, ev_49, ev_50, ev_51, ev_52, ev_53, ev_54, ev_55, ev_56, ev_57, ev_58, ev_59, ev_60, ev_61, ev_62, ev_63, ev_64, ev_65, ev_66, ev_67, ev_68, ev_69, ev_70, ev_71, ev_72, ev_73, ev_74, ev_75, ev_76, ev_77, ev_78, ev_79, ev_80, ev_81, ev_82, ev_83, mk_lit, mk_fin, mk_cat, mk_fit, mk_nar, mk_fld, mk_cls, mk_ty, mk_isr, List.mem_cons, List.not_mem_nil, or_false, or_true, false_or, true_or, Nat.reduceEqDiff, Nat.reduceAdd, Nat.reduceSub, Nat.reduceLT, Nat.reduceLeDiff, ↓reduceIte, if_true, if_false, List.getElem?_cons_zero, List.getElem?_cons_succ, List.set_cons_zero, List.set_cons_succ, List.length_cons, List.length_nil, mz_s1, mz_s2, mz_cl, true_and, and_true, false_and, and_false, List.append_nil, mk_b0, mk_b1, mk_b2, mk_bn, Value.int.injEq, Option.toList_some, Option.toList_none, List.cons_append, List.nil_append, Classical.not_not, Option.some.injEq, reduceCtorEq, ne_eq, not_true_eq_false, not_false_eq_true, false_implies, true_implies, mz_rl d_Sorter_stackPockets_6, mz_rl d_Sorter_stackPockets_7, mz_rl d_Sorter_stackPockets_9, mz_rl d_Sorter_stackPockets_12, mz_rl d_Sorter_stackPockets_13, mz_rl d_Sorter_stackPockets_16, mz_rl d_Sorter_stackPockets_17, mz_rl d_Sorter_stackPockets_18, mz_rl d_Sorter_stackPockets_20, mz_rl d_Sorter_stackPockets_22, mz_rl d_Sorter_stackPockets_25, mz_rl d_Sorter_stackPockets_28, mz_rl d_Sorter_stackPockets_29, mz_rl d_Sorter_stackPockets_32, mz_rl d_Sorter_stackPockets_33, mz_rl d_Sorter_stackPockets_34, mz_rl d_Sorter_stackPockets_35, mz_rl d_Sorter_stackPockets_36, mz_rl d_Sorter_stackPockets_38, mz_rl d_Sorter_stackPockets_39, mz_rl d_Sorter_stackPockets_40, mz_rl d_Sorter_stackPockets_43, mz_rl d_Sorter_stackPockets_46, mz_rl d_Sorter_stackPockets_47, j_Sorter_stackPockets_9, j_Sorter_stackPockets_22, j_Sorter_stackPockets_43, nF_9, h0, mz_u_s, mz_u_n (show (5 : Nat) ≠ 6 by decide), nI_leI (show 11 < 2 ^ 31 by decide) (show p < 2 ^ 31 by omega), show ¬ 11 ≤ p by omega, vp_in_nI hp11 (show 11 < 2 ^ 31 by decide), nI_clamp (show p < 2 ^ 31 by omega), cpy_lt hp11, e1, nI_add, mz_uu]
    have e2 := cpy_cp (fun r => nI (sm cn r)) (fun r => nI (cn r)) gp hp11
    refine ⟨fun h => ?_, fun h => ?_⟩
    · rw [e2]
      have e3 : us cn p = us cn (p + 1) := by
        show _ = us cn p + _
        rw [if_neg]; rfl; rw [mk_le, mk_nti hk] at h; simp at h; omega
      have := ih (p + 1) (some (.int (nI (cn p)))) (by omega)
      rw [← e3] at this
      exact this
    · rw [e2]
      have e3 : us cn p + 1 = us cn (p + 1) := by
        show _ = us cn p + _
        rw [if_pos]; rw [mk_le, mk_nti hk] at h; simp at h; omega
      have := ih (p + 1) (some (.int (nI (cn p)))) (by omega)
      rw [← e3] at this
      exact this
