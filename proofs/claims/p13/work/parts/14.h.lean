/-! sorting in the reference -/
/-- the spare row: its first N places are the cards r 0, r 1 .. -/
def rwR (s : Nat → Int32) (N K : Nat) (r : Nat → Nat) : Prop := ∀ j, j < N → r j < K ∧ s j = nI (r j)
def piP (f : mz_H) (n n0 x K fr to : Nat) (sD : Nat → Nat → Nat) (r : Nat → Nat) (v : Option Value) (n' : Nat) (f' : mz_H) : Prop := v = none ∧ n' = n ∧ ∃ s' p, f' = mz_u f 162 (aS 200 s') ∧ p ≤ n0 ∧ rwR s' (n0 + 1) K (insR r p x) ∧ (p = 0 ∨ keyC sD fr to (r (p - 1)) ≤ keyC sD fr to x) ∧ ∀ j, p ≤ j → j < n0 → keyC sD fr to x < keyC sD fr to (r j)
theorem l_Model_putIn {cD sD : Nat → Nat → Nat} (G : mz_G) (n : Nat) (f : mz_H) {K ln n0 x fr to : Nat} {t p br u a : Int32} {S W r : Nat → Nat} (e158 : f 158 = mo t K ln p br u a) (h : MP f K ln S W cD sD) (hn : n0 < 200) (hx : x < K) (hr : ∀ j, j < n0 → r j < K) (hf : fr ≤ to) (ht : to < 16) :
    ∀ k s1, k ≤ n0 → (∀ j, j < k → s1 j = nI (r j)) → (∀ j, k ≤ j → j < n0 → s1 (j + 1) = nI (r j) ∧ keyC sD fr to x < keyC sD fr to (r j)) → mz_X G mk_P 11 false b_Model_putIn 7 none (r_Model_putIn 0 0) (piP f n n0 x K fr to sD r) (fun _ _ _ => False) 3 [some (.ref 158), some (.ref 162), some (.int (nI n0)), some (.int (nI x)), some (.int (nI fr)), some (.int (nI to)), some (.int (nI k))] [] 0 0 n (mz_u f 162 (aS 200 s1)) := by
  have hK := h.1.2.1
  have fin : ∀ k s1, k ≤ n0 → (∀ j, j < k → s1 j = nI (r j)) → (∀ j, k ≤ j → j < n0 → s1 (j + 1) = nI (r j) ∧ keyC sD fr to x < keyC sD fr to (r j)) → (k = 0 ∨ keyC sD fr to (r (k - 1)) ≤ keyC sD fr to x) → mz_X G mk_P 11 false b_Model_putIn 7 none (r_Model_putIn 0 0) (piP f n n0 x K fr to sD r) (fun _ _ _ => False) 42 [some (.ref 158), some (.ref 162), some (.int (nI n0)), some (.int (nI x)), some (.int (nI fr)), some (.int (nI to)), some (.int (nI k))] [] 0 0 n (mz_u f 162 (aS 200 s1)) := by
    intro k s1 hk h1 h2 h3
    refine mz_go [] 30 ?_
    simp only [mz_run, ev_0, ev_1, ev_2, ev_3, ev_4, ev_5, ev_6, ev_7, ev_8, ev_9, ev_10, ev_11, ev_12, ev_13, ev_14, ev_15, ev_16, ev_17, ev_18, ev_19, ev_20, ev_21, ev_22, ev_23, ev_24, ev_25, ev_26, ev_27, ev_28, ev_29, ev_30, ev_31, ev_32, ev_33, ev_34, ev_35, ev_36, ev_37, ev_38, ev_39, ev_40, ev_41, ev_42, ev_43, ev_44, ev_45, ev_46, ev_47, ev_48, ev_49, ev_50, ev_51, ev_52, ev_53, ev_54, ev_55, ev_56, ev_57, ev_58, ev_59, ev_60, ev_61, ev_62, ev_63, ev_64, ev_65, ev_66, ev_67, ev_68, ev_69, ev_70, ev_71, ev_72, ev_73, ev_74, ev_75, ev_76, ev_77, ev_78, ev_79, ev_80, ev_81, ev_82, ev_83, mk_lit, mk_fin, mk_cat, mk_fit, mk_nar, mk_fld, mk_cls, mk_ty, mk_isr, List.mem_cons, List.not_mem_nil, or_false, or_true, false_or, true_or, Nat.reduceEqDiff, Nat.reduceAdd, Nat.reduceSub, Nat.reduceLT, Nat.reduceLeDiff, reduceIte, if_true, if_false, List.getElem?_cons_zero, List.getElem?_cons_succ, List.set_cons_zero, List.set_cons_succ, List.length_cons, List.length_nil, mz_s1, mz_s2, mz_cl, true_and, and_true, false_and, and_false, List.append_nil, mk_b0, mk_b1, mk_b2, mk_bn, Value.int.injEq, Option.toList_some, Option.toList_none, List.cons_append, List.nil_append, Classical.not_not, Option.some.injEq, reduceCtorEq, ne_eq, not_true_eq_false, not_false_eq_true, false_implies, true_implies, d_Model_putIn, j_Model_putIn, nF_11, mz_u_s, mz_uu, vp_in_nI (show k < 200 by omega) (show 200 < 2 ^ 31 by decide), nI_clamp (show k < 2 ^ 31 by omega), n2s x (by omega), n2sn x (by omega)]
    refine ⟨rfl, rfl, _, k, rfl, hk, fun j hj => ?_, h3, fun j q1 q2 => (h2 j q1 q2).2⟩
    unfold insR
    by_cases e : j < k
    · rw [if_pos e, pk_un (by omega)]; exact ⟨hr j (by omega), h1 j e⟩
    · rw [if_neg e]
      by_cases e2 : j = k
      · subst e2; rw [if_pos rfl]; exact ⟨hx, pk_us⟩
      · rw [if_neg e2, pk_un e2]
        obtain ⟨j', rfl⟩ : ∃ j', j = j' + 1 := ⟨j - 1, by omega⟩
        exact ⟨hr _ (by omega), (h2 j' (by omega) (by omega)).1⟩
  intro k
  induction k with
  | zero =>
    intro s1 hk h1 h2
    refine mz_go [42] 30 ?_
    simp only [mz_run, ev_0, ev_1, ev_2, ev_3, ev_4, ev_5, ev_6, ev_7, ev_8, ev_9, ev_10, ev_11, ev_12, ev_13, ev_14, ev_15, ev_16, ev_17, ev_18, ev_19, ev_20, ev_21, ev_22, ev_23, ev_24, ev_25, ev_26, ev_27, ev_28, ev_29, ev_30, ev_31, ev_32, ev_33, ev_34, ev_35, ev_36, ev_37, ev_38, ev_39, ev_40, ev_41, ev_42, ev_43, ev_44, ev_45, ev_46, ev_47, ev_48, ev_49, ev_50, ev_51, ev_52, ev_53, ev_54, ev_55, ev_56, ev_57, ev_58, ev_59, ev_60, ev_61, ev_62, ev_63, ev_64, ev_65, ev_66, ev_67, ev_68, ev_69, ev_70, ev_71, ev_72, ev_73, ev_74, ev_75, ev_76, ev_77, ev_78, ev_79, ev_80, ev_81, ev_82, ev_83, mk_lit, mk_fin, mk_cat, mk_fit, mk_nar, mk_fld, mk_cls, mk_ty, mk_isr, List.mem_cons, List.not_mem_nil, or_false, or_true, false_or, true_or, Nat.reduceEqDiff, Nat.reduceAdd, Nat.reduceSub, Nat.reduceLT, Nat.reduceLeDiff, reduceIte, if_true, if_false, List.getElem?_cons_zero, List.getElem?_cons_succ, List.set_cons_zero, List.set_cons_succ, List.length_cons, List.length_nil, mz_s1, mz_s2, mz_cl, true_and, and_true, false_and, and_false, List.append_nil, mk_b0, mk_b1, mk_b2, mk_bn, Value.int.injEq, Option.toList_some, Option.toList_none, List.cons_append, List.nil_append, Classical.not_not, Option.some.injEq, reduceCtorEq, ne_eq, not_true_eq_false, not_false_eq_true, false_implies, true_implies, d_Model_putIn, j_Model_putIn, nF_11, show nI 0 ≤ (0 : Int32) by decide]
    exact fin 0 s1 hk h1 h2 (Or.inl rfl)
  | succ k ih =>
    intro s1 hk h1 h2
    have hc := hr k (by omega)
    have ec := h1 k (by omega)
    have esub : nI (k + 1) - nI 1 = nI k := pk_sub (by omega)
    have gt0 : ¬ nI (k + 1) ≤ (0 : Int32) := by
      show ¬ nI (k + 1) ≤ nI 0
      rw [nI_leI (show k + 1 < 2 ^ 31 by omega) (show 0 < 2 ^ 31 by omega)]; omega
    have e158' : (mz_u f 162 (aS 200 s1)) 158 = mo t K ln p br u a := (mz_u_n (by decide)).trans e158
    refine mz_go [20] 30 ?_
    simp only [mz_run, ev_0, ev_1, ev_2, ev_3, ev_4, ev_5, ev_6, ev_7, ev_8, ev_9, ev_10, ev_11, ev_12, ev_13, ev_14, ev_15, ev_16, ev_17, ev_18, ev_19, ev_20, ev_21, ev_22, ev_23, ev_24, ev_25, ev_26, ev_27, ev_28, ev_29, ev_30, ev_31, ev_32, ev_33, ev_34, ev_35, ev_36, ev_37, ev_38, ev_39, ev_40, ev_41, ev_42, ev_43, ev_44, ev_45, ev_46, ev_47, ev_48, ev_49, ev_50, ev_51, ev_52, ev_53, ev_54, ev_55, ev_56, ev_57, ev_58, ev_59, ev_60, ev_61, ev_62, ev_63, ev_64, ev_65, ev_66, ev_67, ev_68, ev_69, ev_70, ev_71, ev_72, ev_73, ev_74, ev_75, ev_76, ev_77, ev_78, ev_79, ev_80, ev_81, ev_82, ev_83, mk_lit, mk_fin, mk_cat, mk_fit, mk_nar, mk_fld, mk_cls, mk_ty, mk_isr, List.mem_cons, List.not_mem_nil, or_false, or_true, false_or, true_or, Nat.reduceEqDiff, Nat.reduceAdd, Nat.reduceSub, Nat.reduceLT, Nat.reduceLeDiff, reduceIte, if_true, if_false, List.getElem?_cons_zero, List.getElem?_cons_succ, List.set_cons_zero, List.set_cons_succ, List.length_cons, List.length_nil, mz_s1, mz_s2, mz_cl, true_and, and_true, false_and, and_false, List.append_nil, mk_b0, mk_b1, mk_b2, mk_bn, Value.int.injEq, Option.toList_some, Option.toList_none, List.cons_append, List.nil_append, Classical.not_not, Option.some.injEq, reduceCtorEq, ne_eq, not_true_eq_false, not_false_eq_true, false_implies, true_implies, d_Model_putIn, j_Model_putIn, nF_11, eq_false gt0, esub, mz_u_s, vp_in_nI (show k < 200 by omega) (show 200 < 2 ^ 31 by decide), nI_clamp (show k < 2 ^ 31 by omega), ec]
    refine mz_callV (by simp only [d_Model_putIn, Nat.reduceAdd]) g_11_117 rfl (fun _ _ h => h) (c_Model_compareX G n _ (MP_162 h s1) hc hx hf ht) e158' rfl rfl (by decide) (Nat.le_of_ble_eq_true rfl) rfl ?_; intro v_ n_ f_ h_; obtain ⟨⟨rv, rfl, hrv, -⟩, hn_, hf_⟩ := h_; replace hn_ := hn_.symm; replace hf_ := hf_.symm; subst hn_; subst hf_
    by_cases hr0 : rv ≤ 0
    · refine mz_go [42] 30 ?_
      simp only [mz_run, ev_0, ev_1, ev_2, ev_3, ev_4, ev_5, ev_6, ev_7, ev_8, ev_9, ev_10, ev_11, ev_12, ev_13, ev_14, ev_15, ev_16, ev_17, ev_18, ev_19, ev_20, ev_21, ev_22, ev_23, ev_24, ev_25, ev_26, ev_27, ev_28, ev_29, ev_30, ev_31, ev_32, ev_33, ev_34, ev_35, ev_36, ev_37, ev_38, ev_39, ev_40, ev_41, ev_42, ev_43, ev_44, ev_45, ev_46, ev_47, ev_48, ev_49, ev_50, ev_51, ev_52, ev_53, ev_54, ev_55, ev_56, ev_57, ev_58, ev_59, ev_60, ev_61, ev_62, ev_63, ev_64, ev_65, ev_66, ev_67, ev_68, ev_69, ev_70, ev_71, ev_72, ev_73, ev_74, ev_75, ev_76, ev_77, ev_78, ev_79, ev_80, ev_81, ev_82, ev_83, mk_lit, mk_fin, mk_cat, mk_fit, mk_nar, mk_fld, mk_cls, mk_ty, mk_isr, List.mem_cons, List.not_mem_nil, or_false, or_true, false_or, true_or, Nat.reduceEqDiff, Nat.reduceAdd, Nat.reduceSub, Nat.reduceLT, Nat.reduceLeDiff, reduceIte, if_true, if_false, List.getElem?_cons_zero, List.getElem?_cons_succ, List.set_cons_zero, List.set_cons_succ, List.length_cons, List.length_nil, mz_s1, mz_s2, mz_cl, true_and, and_true, false_and, and_false, List.append_nil, mk_b0, mk_b1, mk_b2, mk_bn, Value.int.injEq, Option.toList_some, Option.toList_none, List.cons_append, List.nil_append, Classical.not_not, Option.some.injEq, reduceCtorEq, ne_eq, not_true_eq_false, not_false_eq_true, false_implies, true_implies, d_Model_putIn, j_Model_putIn, nF_11, eq_true hr0]
      exact fin (k + 1) s1 hk h1 h2 (Or.inr (hrv.mp hr0))
    · refine mz_go [3] 30 ?_
      simp only [mz_run, ev_0, ev_1, ev_2, ev_3, ev_4, ev_5, ev_6, ev_7, ev_8, ev_9, ev_10, ev_11, ev_12, ev_13, ev_14, ev_15, ev_16, ev_17, ev_18, ev_19, ev_20, ev_21, ev_22, ev_23, ev_24, ev_25, ev_26, ev_27, ev_28, ev_29, ev_30, ev_31, ev_32, ev_33, ev_34, ev_35, ev_36, ev_37, ev_38, ev_39, ev_40, ev_41, ev_42, ev_43, ev_44, ev_45, ev_46, ev_47, ev_48, ev_49, ev_50, ev_51, ev_52, ev_53, ev_54, ev_55, ev_56, ev_57, ev_58, ev_59, ev_60, ev_61, ev_62, ev_63, ev_64, ev_65, ev_66, ev_67, ev_68, ev_69, ev_70, ev_71, ev_72, ev_73, ev_74, ev_75, ev_76, ev_77, ev_78, ev_79, ev_80, ev_81, ev_82, ev_83, mk_lit, mk_fin, mk_cat, mk_fit, mk_nar, mk_fld, mk_cls, mk_ty, mk_isr, List.mem_cons, List.not_mem_nil, or_false, or_true, false_or, true_or, Nat.reduceEqDiff, Nat.reduceAdd, Nat.reduceSub, Nat.reduceLT, Nat.reduceLeDiff, reduceIte, if_true, if_false, List.getElem?_cons_zero, List.getElem?_cons_succ, List.set_cons_zero, List.set_cons_succ, List.length_cons, List.length_nil, mz_s1, mz_s2, mz_cl, true_and, and_true, false_and, and_false, List.append_nil, mk_b0, mk_b1, mk_b2, mk_bn, Value.int.injEq, Option.toList_some, Option.toList_none, List.cons_append, List.nil_append, Classical.not_not, Option.some.injEq, reduceCtorEq, ne_eq, not_true_eq_false, not_false_eq_true, false_implies, true_implies, d_Model_putIn, j_Model_putIn, nF_11, eq_false hr0, esub, m1s, mz_u_s, mz_uu, vp_in_nI (show k < 200 by omega) (show 200 < 2 ^ 31 by decide), nI_clamp (show k < 2 ^ 31 by omega), vp_in_nI (show k + 1 < 200 by omega) (show 200 < 2 ^ 31 by decide), nI_clamp (show k + 1 < 2 ^ 31 by omega), ec, n2sn _ (show r k < 200 by omega)]
      have hlt : keyC sD fr to x < keyC sD fr to (r k) := by
        rcases Nat.lt_or_ge (keyC sD fr to x) (keyC sD fr to (r k)) with z | z
        · exact z
        · exact absurd (hrv.mpr z) hr0
      refine ih _ (by omega) (fun j hj => ?_) (fun j hj hj2 => ?_)
      · rw [pk_un (by omega)]; exact h1 j (by omega)
      · by_cases e : j = k
        · subst e; exact ⟨pk_us, hlt⟩
        · rw [pk_un (by omega)]; exact h2 j (by omega) hj2
theorem c_Model_putIn {cD sD : Nat → Nat → Nat} (G : mz_G) (n : Nat) (f : mz_H) {K ln n0 x fr to : Nat} {S W r : Nat → Nat} {s : Nat → Int32} (h : MP f K ln S W cD sD) (e162 : f 162 = aS 200 s) (hn : n0 < 200) (hv : rwR s n0 K r) (hx : x < K) (hf : fr ≤ to) (ht : to < 16) : mz_Ct G mk_P y_Model_putIn b_Model_putIn 7 none (r_Model_putIn 0 0) [.ref 158, .ref 162, .int (nI n0), .int (nI x), .int (nI fr), .int (nI to)] n f (piP f n n0 x K fr to sD r) := by
  obtain ⟨t, p, br, u, a, e158⟩ := h.1.1
  refine mk_Ct 11 false [some (.ref 158), some (.ref 162), some (.int (nI n0)), some (.int (nI x)), some (.int (nI fr)), some (.int (nI to)), none] (by decide) rfl (by decide) (Nat.le_of_ble_eq_true rfl) rfl ?_
  refine mz_go [3] 30 ?_
  simp only [mz_run, ev_0, ev_1, ev_2, ev_3, ev_4, ev_5, ev_6, ev_7, ev_8, ev_9, ev_10, ev_11, ev_12, ev_13, ev_14, ev_15, ev_16, ev_17, ev_18, ev_19, ev_20, ev_21, ev_22, ev_23, ev_24, ev_25, ev_26, ev_27, ev_28, ev_29, ev_30, ev_31, ev_32, ev_33, ev_34, ev_35, ev_36, ev_37, ev_38, ev_39, ev_40, ev_41, ev_42, ev_43, ev_44, ev_45, ev_46, ev_47, ev_48, ev_49, ev_50, ev_51, ev_52, ev_53, ev_54, ev_55, ev_56, ev_57, ev_58, ev_59, ev_60, ev_61, ev_62, ev_63, ev_64, ev_65, ev_66, ev_67, ev_68, ev_69, ev_70, ev_71, ev_72, ev_73, ev_74, ev_75, ev_76, ev_77, ev_78, ev_79, ev_80, ev_81, ev_82, ev_83, mk_lit, mk_fin, mk_cat, mk_fit, mk_nar, mk_fld, mk_cls, mk_ty, mk_isr, List.mem_cons, List.not_mem_nil, or_false, or_true, false_or, true_or, Nat.reduceEqDiff, Nat.reduceAdd, Nat.reduceSub, Nat.reduceLT, Nat.reduceLeDiff, reduceIte, if_true, if_false, List.getElem?_cons_zero, List.getElem?_cons_succ, List.set_cons_zero, List.set_cons_succ, List.length_cons, List.length_nil, mz_s1, mz_s2, mz_cl, true_and, and_true, false_and, and_false, List.append_nil, mk_b0, mk_b1, mk_b2, mk_bn, Value.int.injEq, Option.toList_some, Option.toList_none, List.cons_append, List.nil_append, Classical.not_not, Option.some.injEq, reduceCtorEq, ne_eq, not_true_eq_false, not_false_eq_true, false_implies, true_implies, d_Model_putIn, j_Model_putIn, nF_11]
  have := l_Model_putIn G n f (r := r) e158 h hn hx (fun j hj => (hv j hj).1) hf ht n0 s (Nat.le_refl _) (fun j hj => (hv j hj).2) (fun j h1 h2 => absurd h2 (by omega))
  rw [mz_ui e162] at this
  exact this
/-- a row told in order stays so -/
theorem ins_en {sD : Nat → Nat → Nat} {fr to N e x p : Nat} {P : Nat → Prop} {E π r : Nat → Nat} (h : enP (fun i => keyC sD fr to (E i)) P N π) (hr : ∀ a, a < N → r a = E (π a)) (hx : x = E e) (hi : ∀ i, P i → i < e) (hp : p ≤ N) (h1 : p = 0 ∨ keyC sD fr to (r (p - 1)) ≤ keyC sD fr to x) (h2 : ∀ j, p ≤ j → j < N → keyC sD fr to x < keyC sD fr to (r j)) : enP (fun i => keyC sD fr to (E i)) (fun i => P i ∨ i = e) (N + 1) (insR π p e) ∧ ∀ a, a < N + 1 → insR r p x a = E (insR π p e a) := by
  refine ⟨enP_ins h hi hp ?_ (fun j q1 q2 => ?_), fun a ha => ?_⟩
  · rcases h1 with z | z
    · exact Or.inl z
    · by_cases e0 : p = 0
      · exact Or.inl e0
      · rw [hr (p - 1) (by omega), hx] at z
        exact Or.inr z
  · have := h2 j q1 q2
    rw [hr j q2, hx] at this
    exact this
  · unfold insR
    by_cases z : a < p
    · rw [if_pos z, if_pos z]; exact hr a (by omega)
    · rw [if_neg z, if_neg z]
      by_cases z2 : a = p
      · rw [if_pos z2, if_pos z2]; exact hx
      · rw [if_neg z2, if_neg z2]; exact hr (a - 1) (by omega)
theorem Md_g {cE : Nat → Nat → Nat} {f : mz_H} {K : Nat} {S : Nat → Nat} {g : Nat → Int32} {cD : Nat → Nat → Nat} (h : Md f K S cD) (hg : ∀ d i, d < 8 → i < S d → cE d i < K ∧ g (200 * d + i) = nI (cE d i)) : Md (mz_u f 160 (aS 1600 g)) K S cE := ⟨(mz_u_n (by decide)).trans h.1, h.2.1, g, mz_u_s _ _ _, hg⟩
theorem MP_160 {cD cE sD : Nat → Nat → Nat} {f : mz_H} {K ln : Nat} {S W : Nat → Nat} {g : Nat → Int32} (h : MP f K ln S W cD sD) (hg : ∀ d i, d < 8 → i < S d → cE d i < K ∧ g (200 * d + i) = nI (cE d i)) : MP (mz_u f 160 (aS 1600 g)) K ln S W cE sD := MP_dk h (fun q z1 z2 => mz_u_n z1) (Md_g h.2.1 hg)
/-- a row on its way back to deck d: k cards are there -/
def bkR (g : Nat → Int32) (K d k : Nat) (S : Nat → Nat) (cD : Nat → Nat → Nat) (r : Nat → Nat) : Prop := ∀ d' i, d' < 8 → i < S d' → va_up cD d (cpy r (cD d) k) d' i < K ∧ g (200 * d' + i) = nI (va_up cD d (cpy r (cD d) k) d' i)
theorem bkR_0 {g : Nat → Int32} {K d : Nat} {S r : Nat → Nat} {cD : Nat → Nat → Nat} (h : ∀ d i, d < 8 → i < S d → cD d i < K ∧ g (200 * d + i) = nI (cD d i)) : bkR g K d 0 S cD r := by
  unfold bkR
  rw [cpy_0, vu_id]
  exact h
theorem bkR_s {g : Nat → Int32} {K d k : Nat} {S r : Nat → Nat} {cD : Nat → Nat → Nat} (h : bkR g K d k S cD r) (hS : ∀ d, d < 8 → S d ≤ 200) (hd : d < 8) (hk : k < S d) (hc : r k < K) : bkR (upd g (200 * d + k) (nI (r k))) K d (k + 1) S cD r := by
  intro d' i hd' hi
  have q := h d' i hd' hi
  have s1 := hS d' hd'
  have s2 := hS d hd
  by_cases e : d' = d
  · subst e
    rw [va_up_s] at q ⊢
    by_cases e2 : i = k
    · subst e2; rw [pk_us, cpy_lt (by omega)]; exact ⟨hc, rfl⟩
    · rw [pk_un (by omega)]
      have : cpy r (cD d') (k + 1) i = cpy r (cD d') k i := by
        unfold cpy
        by_cases z : i < k
        · rw [if_pos z, if_pos (by omega)]
        · rw [if_neg z, if_neg (by omega)]
      rw [this]; exact q
  · rw [va_up_n e] at q ⊢
    rw [pk_un (by omega)]; exact q
theorem bkR_e {f : mz_H} {g : Nat → Int32} {K ln d k : Nat} {S W r : Nat → Nat} {cD sD : Nat → Nat → Nat} (h : bkR g K d k S cD r) (hk : S d ≤ k) (hP : MP f K ln S W cD sD) : MP (mz_u f 160 (aS 1600 g)) K ln S W (va_up cD d r) sD := by
  refine MP_160 hP (fun d' i hd' hi => ?_)
  have q := h d' i hd' hi
  by_cases e : d' = d
  · subst e
    rw [va_up_s, cpy_lt (by omega)] at q
    rw [va_up_s]; exact q
  · rw [va_up_n e] at q ⊢; exact q
/-- what a pass leaves -/
def sfP (f : mz_H) (n K ln d col : Nat) (S W : Nat → Nat) (cD sD : Nat → Nat → Nat) (z : Bool) (v : Option Value) (n' : Nat) (f' : mz_H) : Prop := v = some (.int (nI (us (fun r => cntP (fun m => pk sD col z (cD d m)) r (S d)) 11))) ∧ n' = n ∧ (∃ c', MP f' K ln S W (va_up cD d c') sD ∧ ∀ m, m < S d → c' (posP (fun m => pk sD col z (cD d m)) (S d) m) = cD d m) ∧ FrC f f' ∧ ∃ p b u a t, f 158 = mo t K ln p b u a ∧ f' 158 = mo t K ln (p + nI 1) b u a
/-- sift's way back -/
theorem l_Model_sift3 {cD sD : Nat → Nat → Nat} (G : mz_G) (n : Nat) (f : mz_H) {K ln d : Nat} {t p br u a : Int32} {S W c' : Nat → Nat} {s : Nat → Int32} {w2 w3 w7 w8 : Option Value} {ps : Int32} (post : Option Value → Nat → mz_H → Prop) (e158 : f 158 = mo t K ln p br u a) (h : MP f K ln S W cD sD) (e162 : f 162 = aS 200 s) (hv : rwR s (S d) K c') (hd : d < 8)
    (hend : ∀ f', MP f' K ln S W (va_up cD d c') sD → FrC f f' → f' 158 = mo t K ln (p + nI 1) br u a → post (some (.int ps)) n f') :
    ∀ m k g, k + m = S d → bkR g K d k S cD c' → mz_X G mk_P 11 false b_Model_sift 9 (some .int) (r_Model_sift 0 0) post (fun _ _ _ => False) 102 [some (.ref 158), some (.int (nI d)), w2, w3, some (.int (nI (S d))), some (.int ps), some (.int (nI k)), w7, w8] [] 0 0 n (mz_u f 160 (aS 1600 g)) := by
  have hK := h.1.2.1
  have hsz := MP_sz h hd
  intro m
  induction m with
  | zero =>
    intro k g hk hg
    refine mz_go [102] 30 ?_
    simp only [mz_run, ev_0, ev_1, ev_2, ev_3, ev_4, ev_5, ev_6, ev_7, ev_8, ev_9, ev_10, ev_11, ev_12, ev_13, ev_14, ev_15, ev_16, ev_17, ev_18, ev_19, ev_20, ev_21, ev_22, ev_23, ev_24, ev_25, ev_26, ev_27, ev_28, ev_29, ev_30, ev_31, ev_32, ev_33, ev_34, ev_35, ev_36, ev_37, ev_38, ev_39, ev_40, ev_41, ev_42, ev_43, ev_44, ev_45, ev_46, ev_47, ev_48, ev_49, ev_50, ev_51, ev_52, ev_53, ev_54, ev_55, ev_56, ev_57, ev_58, ev_59, ev_60, ev_61, ev_62, ev_63, ev_64, ev_65, ev_66, ev_67, ev_68, ev_69, ev_70, ev_71, ev_72, ev_73, ev_74, ev_75, ev_76, ev_77, ev_78, ev_79, ev_80, ev_81, ev_82, ev_83, mk_lit, mk_fin, mk_cat, mk_fit, mk_nar, mk_fld, mk_cls, mk_ty, mk_isr, List.mem_cons, List.not_mem_nil, or_false, or_true, false_or, true_or, Nat.reduceEqDiff, Nat.reduceAdd, Nat.reduceSub, Nat.reduceLT, Nat.reduceLeDiff, reduceIte, if_true, if_false, List.getElem?_cons_zero, List.getElem?_cons_succ, List.set_cons_zero, List.set_cons_succ, List.length_cons, List.length_nil, mz_s1, mz_s2, mz_cl, true_and, and_true, false_and, and_false, List.append_nil, mk_b0, mk_b1, mk_b2, mk_bn, Value.int.injEq, Option.toList_some, Option.toList_none, List.cons_append, List.nil_append, Classical.not_not, Option.some.injEq, reduceCtorEq, ne_eq, not_true_eq_false, not_false_eq_true, false_implies, true_implies, d_Model_sift, j_Model_sift, nF_11, nI_leI (show S d < 2 ^ 31 by omega) (show k < 2 ^ 31 by omega), show S d ≤ k by omega, mz_u_n (show 158 ≠ 160 by decide), e158, mo]
    exact hend _ (MP_mo (bkR_e hg (by omega) h) h.1.2.2 _ _ _ _ _) (FrC_u (FrC_1 f (by decide) _) (by decide) _) (mz_u_s _ _ _)
  | succ m ih =>
    intro k g hk hg
    obtain ⟨hc, ec⟩ := hv k (by omega)
    refine mz_go [102] 30 ?_
    simp only [mz_run, ev_0, ev_1, ev_2, ev_3, ev_4, ev_5, ev_6, ev_7, ev_8, ev_9, ev_10, ev_11, ev_12, ev_13, ev_14, ev_15, ev_16, ev_17, ev_18, ev_19, ev_20, ev_21, ev_22, ev_23, ev_24, ev_25, ev_26, ev_27, ev_28, ev_29, ev_30, ev_31, ev_32, ev_33, ev_34, ev_35, ev_36, ev_37, ev_38, ev_39, ev_40, ev_41, ev_42, ev_43, ev_44, ev_45, ev_46, ev_47, ev_48, ev_49, ev_50, ev_51, ev_52, ev_53, ev_54, ev_55, ev_56, ev_57, ev_58, ev_59, ev_60, ev_61, ev_62, ev_63, ev_64, ev_65, ev_66, ev_67, ev_68, ev_69, ev_70, ev_71, ev_72, ev_73, ev_74, ev_75, ev_76, ev_77, ev_78, ev_79, ev_80, ev_81, ev_82, ev_83, mk_lit, mk_fin, mk_cat, mk_fit, mk_nar, mk_fld, mk_cls, mk_ty, mk_isr, List.mem_cons, List.not_mem_nil, or_false, or_true, false_or, true_or, Nat.reduceEqDiff, Nat.reduceAdd, Nat.reduceSub, Nat.reduceLT, Nat.reduceLeDiff, reduceIte, if_true, if_false, List.getElem?_cons_zero, List.getElem?_cons_succ, List.set_cons_zero, List.set_cons_succ, List.length_cons, List.length_nil, mz_s1, mz_s2, mz_cl, true_and, and_true, false_and, and_false, List.append_nil, mk_b0, mk_b1, mk_b2, mk_bn, Value.int.injEq, Option.toList_some, Option.toList_none, List.cons_append, List.nil_append, Classical.not_not, Option.some.injEq, reduceCtorEq, ne_eq, not_true_eq_false, not_false_eq_true, false_implies, true_implies, d_Model_sift, j_Model_sift, nF_11, nI_leI (show S d < 2 ^ 31 by omega) (show k < 2 ^ 31 by omega), show ¬ S d ≤ k by omega, mz_u_n (show 158 ≠ 160 by decide), mz_u_n (show 162 ≠ 160 by decide), e158, e162, mo, mz_u_s, mz_uu, pk_mul, nI_add, vp_in_nI (show 200 * d + k < 1600 by omega) (show 1600 < 2 ^ 31 by decide), nI_clamp (show 200 * d + k < 2 ^ 31 by omega), vp_in_nI (show k < 200 by omega) (show 200 < 2 ^ 31 by decide), nI_clamp (show k < 2 ^ 31 by omega), ec, n2sn _ (show c' k < 200 by omega)]
    exact ih (k + 1) _ (by omega) (bkR_s hg (fun d hd => MP_sz h hd) hd (by omega) hc)
/-- the spare row in a pass: the cards of the keys below kk, and of kk the first i -/
def sfI (s : Nat → Int32) (q c : Nat → Nat) (N kk i : Nat) : Prop := ∀ j, j < N → (q j < kk ∨ q j = kk ∧ j < i) → s (posP q N j) = nI (c j)
/-- one key -/
theorem l_Model_sift2 {cD sD : Nat → Nat → Nat} (G : mz_G) (n : Nat) (f : mz_H) {K ln d col kk : Nat} {t p br u a : Int32} {S W : Nat → Nat} {ps : Int32} (z : Bool) (post : Option Value → Nat → mz_H → Prop) (q : Nat → Nat) (hq : q = fun m => pk sD col z (cD d m)) (e158 : f 158 = mo t K ln p br u a) (h : MP f K ln S W cD sD) (hd : d < 8) (hcol : col < 16) (hkk : kk < 11) (hq11 : ∀ j, j < S d → q j < 11)
    (hend : ∀ s, sfI s q (cD d) (S d) (kk + 1) 0 → mz_X G mk_P 11 false b_Model_sift 9 (some .int) (r_Model_sift 0 0) post (fun _ _ _ => False) 76 [some (.ref 158), some (.int (nI d)), some (.int (nI col)), some (.int (mk_b (z = true))), some (.int (nI (sm (fun r => cntP q r (S d)) kk + cntP q kk (S d)))), some (.int ps), some (.int (nI kk)), some (.int (nI (sm (fun r => cntP q r (S d)) kk))), some (.int (nI (S d)))] [] 0 0 n (mz_u f 162 (aS 200 s))) :
    ∀ m i s, i + m = S d → sfI s q (cD d) (S d) kk i → mz_X G mk_P 11 false b_Model_sift 9 (some .int) (r_Model_sift 0 0) post (fun _ _ _ => False) 23 [some (.ref 158), some (.int (nI d)), some (.int (nI col)), some (.int (mk_b (z = true))), some (.int (nI (sm (fun r => cntP q r (S d)) kk + cntP q kk i))), some (.int ps), some (.int (nI kk)), some (.int (nI (sm (fun r => cntP q r (S d)) kk))), some (.int (nI i))] [] 0 0 n (mz_u f 162 (aS 200 s)) := by
  have hK := h.1.2.1
  have e161 := h.2.1.1
  have hsz := MP_sz h hd
  intro m
  induction m with
  | zero =>
    intro i s hi hv
    have : i = S d := by omega
    subst this
    refine mz_go [23, 76] 30 ?_
    simp only [mz_run, ev_0, ev_1, ev_2, ev_3, ev_4, ev_5, ev_6, ev_7, ev_8, ev_9, ev_10, ev_11, ev_12, ev_13, ev_14, ev_15, ev_16, ev_17, ev_18, ev_19, ev_20, ev_21, ev_22, ev_23, ev_24, ev_25, ev_26, ev_27, ev_28, ev_29, ev_30, ev_31, ev_32, ev_33, ev_34, ev_35, ev_36, ev_37, ev_38, ev_39, ev_40, ev_41, ev_42, ev_43, ev_44, ev_45, ev_46, ev_47, ev_48, ev_49, ev_50, ev_51, ev_52, ev_53, ev_54, ev_55, ev_56, ev_57, ev_58, ev_59, ev_60, ev_61, ev_62, ev_63, ev_64, ev_65, ev_66, ev_67, ev_68, ev_69, ev_70, ev_71, ev_72, ev_73, ev_74, ev_75, ev_76, ev_77, ev_78, ev_79, ev_80, ev_81, ev_82, ev_83, mk_lit, mk_fin, mk_cat, mk_fit, mk_nar, mk_fld, mk_cls, mk_ty, mk_isr, List.mem_cons, List.not_mem_nil, or_false, or_true, false_or, true_or, Nat.reduceEqDiff, Nat.reduceAdd, Nat.reduceSub, Nat.reduceLT, Nat.reduceLeDiff, reduceIte, if_true, if_false, List.getElem?_cons_zero, List.getElem?_cons_succ, List.set_cons_zero, List.set_cons_succ, List.length_cons, List.length_nil, mz_s1, mz_s2, mz_cl, true_and, and_true, false_and, and_false, List.append_nil, mk_b0, mk_b1, mk_b2, mk_bn, Value.int.injEq, Option.toList_some, Option.toList_none, List.cons_append, List.nil_append, Classical.not_not, Option.some.injEq, reduceCtorEq, ne_eq, not_true_eq_false, not_false_eq_true, false_implies, true_implies, d_Model_sift, j_Model_sift, nF_11, mz_u_n (show 158 ≠ 162 by decide), mz_u_n (show 161 ≠ 162 by decide), e158, e161, mo, vp_in_nI (show d < 8 by omega) (show 8 < 2 ^ 31 by decide), nI_clamp (show d < 2 ^ 31 by omega), nI_leI (show S d < 2 ^ 31 by omega) (show S d < 2 ^ 31 by omega), Nat.le_refl]
    exact hend s (fun j hj hq' => hv j hj (by omega))
  | succ m ih =>
    intro i s hi hv
    have h' := MP_162 h s
    have e158' : (mz_u f 162 (aS 200 s)) 158 = mo t K ln p br u a := (mz_u_n (by decide)).trans e158
    have hlt : i < S d := by omega
    have hc := MP_cd h hd hlt
    have hqi : pk sD col z (cD d i) = q i := by rw [hq]
    have hq1 := hq11 i hlt
    refine mz_go [39] 30 ?_
    simp only [mz_run, ev_0, ev_1, ev_2, ev_3, ev_4, ev_5, ev_6, ev_7, ev_8, ev_9, ev_10, ev_11, ev_12, ev_13, ev_14, ev_15, ev_16, ev_17, ev_18, ev_19, ev_20, ev_21, ev_22, ev_23, ev_24, ev_25, ev_26, ev_27, ev_28, ev_29, ev_30, ev_31, ev_32, ev_33, ev_34, ev_35, ev_36, ev_37, ev_38, ev_39, ev_40, ev_41, ev_42, ev_43, ev_44, ev_45, ev_46, ev_47, ev_48, ev_49, ev_50, ev_51, ev_52, ev_53, ev_54, ev_55, ev_56, ev_57, ev_58, ev_59, ev_60, ev_61, ev_62, ev_63, ev_64, ev_65, ev_66, ev_67, ev_68, ev_69, ev_70, ev_71, ev_72, ev_73, ev_74, ev_75, ev_76, ev_77, ev_78, ev_79, ev_80, ev_81, ev_82, ev_83, mk_lit, mk_fin, mk_cat, mk_fit, mk_nar, mk_fld, mk_cls, mk_ty, mk_isr, List.mem_cons, List.not_mem_nil, or_false, or_true, false_or, true_or, Nat.reduceEqDiff, Nat.reduceAdd, Nat.reduceSub, Nat.reduceLT, Nat.reduceLeDiff, reduceIte, if_true, if_false, List.getElem?_cons_zero, List.getElem?_cons_succ, List.set_cons_zero, List.set_cons_succ, List.length_cons, List.length_nil, mz_s1, mz_s2, mz_cl, true_and, and_true, false_and, and_false, List.append_nil, mk_b0, mk_b1, mk_b2, mk_bn, Value.int.injEq, Option.toList_some, Option.toList_none, List.cons_append, List.nil_append, Classical.not_not, Option.some.injEq, reduceCtorEq, ne_eq, not_true_eq_false, not_false_eq_true, false_implies, true_implies, d_Model_sift, j_Model_sift, nF_11, mz_u_n (show 158 ≠ 162 by decide), mz_u_n (show 161 ≠ 162 by decide), e158, e161, mo, vp_in_nI (show d < 8 by omega) (show 8 < 2 ^ 31 by decide), nI_clamp (show d < 2 ^ 31 by omega), nI_leI (show S d < 2 ^ 31 by omega) (show i < 2 ^ 31 by omega), show ¬ S d ≤ i by omega]
    refine mz_callV (by simp only [d_Model_sift, Nat.reduceAdd]) g_11_98 rfl (fun _ _ h => h) (c_Model_cardAt G n _ h' hd hlt) e158' rfl rfl (by decide) (Nat.le_of_ble_eq_true rfl) rfl ?_; intro v_ n_ f_ h_; obtain ⟨rfl, hn_, hf_⟩ := h_; replace hn_ := hn_.symm; replace hf_ := hf_.symm; subst hn_; subst hf_
    refine mz_go [44] 30 ?_
    simp only [mz_run, ev_0, ev_1, ev_2, ev_3, ev_4, ev_5, ev_6, ev_7, ev_8, ev_9, ev_10, ev_11, ev_12, ev_13, ev_14, ev_15, ev_16, ev_17, ev_18, ev_19, ev_20, ev_21, ev_22, ev_23, ev_24, ev_25, ev_26, ev_27, ev_28, ev_29, ev_30, ev_31, ev_32, ev_33, ev_34, ev_35, ev_36, ev_37, ev_38, ev_39, ev_40, ev_41, ev_42, ev_43, ev_44, ev_45, ev_46, ev_47, ev_48, ev_49, ev_50, ev_51, ev_52, ev_53, ev_54, ev_55, ev_56, ev_57, ev_58, ev_59, ev_60, ev_61, ev_62, ev_63, ev_64, ev_65, ev_66, ev_67, ev_68, ev_69, ev_70, ev_71, ev_72, ev_73, ev_74, ev_75, ev_76, ev_77, ev_78, ev_79, ev_80, ev_81, ev_82, ev_83, mk_lit, mk_fin, mk_cat, mk_fit, mk_nar, mk_fld, mk_cls, mk_ty, mk_isr, List.mem_cons, List.not_mem_nil, or_false, or_true, false_or, true_or, Nat.reduceEqDiff, Nat.reduceAdd, Nat.reduceSub, Nat.reduceLT, Nat.reduceLeDiff, reduceIte, if_true, if_false, List.getElem?_cons_zero, List.getElem?_cons_succ, List.set_cons_zero, List.set_cons_succ, List.length_cons, List.length_nil, mz_s1, mz_s2, mz_cl, true_and, and_true, false_and, and_false, List.append_nil, mk_b0, mk_b1, mk_b2, mk_bn, Value.int.injEq, Option.toList_some, Option.toList_none, List.cons_append, List.nil_append, Classical.not_not, Option.some.injEq, reduceCtorEq, ne_eq, not_true_eq_false, not_false_eq_true, false_implies, true_implies, d_Model_sift, j_Model_sift, nF_11]
    refine mz_callV (by simp only [d_Model_sift, Nat.reduceAdd]) g_11_101 rfl (fun _ _ h => h) (c_Model_keyOfX G n _ h' hc hcol z) e158' rfl rfl (by decide) (Nat.le_of_ble_eq_true rfl) rfl ?_; intro v_ n_ f_ h_; obtain ⟨rfl, hn_, hf_⟩ := h_; replace hn_ := hn_.symm; replace hf_ := hf_.symm; subst hn_; subst hf_
    rw [hqi]
    by_cases he : q i = kk
    · have ek : cntP q kk (i + 1) = cntP q kk i + 1 := by show cntP q kk i + _ = _; rw [if_pos he]
      have hpos : posP q (S d) i = sm (fun r => cntP q r (S d)) kk + cntP q kk i := by unfold posP; rw [he]
      have hpl := posP_lt hq11 hlt
      rw [hpos] at hpl
      refine mz_go [62] 30 ?_
      simp only [mz_run, ev_0, ev_1, ev_2, ev_3, ev_4, ev_5, ev_6, ev_7, ev_8, ev_9, ev_10, ev_11, ev_12, ev_13, ev_14, ev_15, ev_16, ev_17, ev_18, ev_19, ev_20, ev_21, ev_22, ev_23, ev_24, ev_25, ev_26, ev_27, ev_28, ev_29, ev_30, ev_31, ev_32, ev_33, ev_34, ev_35, ev_36, ev_37, ev_38, ev_39, ev_40, ev_41, ev_42, ev_43, ev_44, ev_45, ev_46, ev_47, ev_48, ev_49, ev_50, ev_51, ev_52, ev_53, ev_54, ev_55, ev_56, ev_57, ev_58, ev_59, ev_60, ev_61, ev_62, ev_63, ev_64, ev_65, ev_66, ev_67, ev_68, ev_69, ev_70, ev_71, ev_72, ev_73, ev_74, ev_75, ev_76, ev_77, ev_78, ev_79, ev_80, ev_81, ev_82, ev_83, mk_lit, mk_fin, mk_cat, mk_fit, mk_nar, mk_fld, mk_cls, mk_ty, mk_isr, List.mem_cons, List.not_mem_nil, or_false, or_true, false_or, true_or, Nat.reduceEqDiff, Nat.reduceAdd, Nat.reduceSub, Nat.reduceLT, Nat.reduceLeDiff, reduceIte, if_true, if_false, List.getElem?_cons_zero, List.getElem?_cons_succ, List.set_cons_zero, List.set_cons_succ, List.length_cons, List.length_nil, mz_s1, mz_s2, mz_cl, true_and, and_true, false_and, and_false, List.append_nil, mk_b0, mk_b1, mk_b2, mk_bn, Value.int.injEq, Option.toList_some, Option.toList_none, List.cons_append, List.nil_append, Classical.not_not, Option.some.injEq, reduceCtorEq, ne_eq, not_true_eq_false, not_false_eq_true, false_implies, true_implies, d_Model_sift, j_Model_sift, nF_11, he, mz_u_n (show 158 ≠ 162 by decide), e158, mo]
      refine mz_callV (by simp only [d_Model_sift, Nat.reduceAdd]) g_11_98 rfl (fun _ _ h => h) (c_Model_cardAt G n _ h' hd hlt) e158' rfl rfl (by decide) (Nat.le_of_ble_eq_true rfl) rfl ?_; intro v_ n_ f_ h_; obtain ⟨rfl, hn_, hf_⟩ := h_; replace hn_ := hn_.symm; replace hf_ := hf_.symm; subst hn_; subst hf_
      refine mz_go [23] 30 ?_
      simp only [mz_run, ev_0, ev_1, ev_2, ev_3, ev_4, ev_5, ev_6, ev_7, ev_8, ev_9, ev_10, ev_11, ev_12, ev_13, ev_14, ev_15, ev_16, ev_17, ev_18, ev_19, ev_20, ev_21, ev_22, ev_23, ev_24, ev_25, ev_26, ev_27, ev_28, ev_29, ev_30, ev_31, ev_32, ev_33, ev_34, ev_35, ev_36, ev_37, ev_38, ev_39, ev_40, ev_41, ev_42, ev_43, ev_44, ev_45, ev_46, ev_47, ev_48, ev_49, ev_50, ev_51, ev_52, ev_53, ev_54, ev_55, ev_56, ev_57, ev_58, ev_59, ev_60, ev_61, ev_62, ev_63, ev_64, ev_65, ev_66, ev_67, ev_68, ev_69, ev_70, ev_71, ev_72, ev_73, ev_74, ev_75, ev_76, ev_77, ev_78, ev_79, ev_80, ev_81, ev_82, ev_83, mk_lit, mk_fin, mk_cat, mk_fit, mk_nar, mk_fld, mk_cls, mk_ty, mk_isr, List.mem_cons, List.not_mem_nil, or_false, or_true, false_or, true_or, Nat.reduceEqDiff, Nat.reduceAdd, Nat.reduceSub, Nat.reduceLT, Nat.reduceLeDiff, reduceIte, if_true, if_false, List.getElem?_cons_zero, List.getElem?_cons_succ, List.set_cons_zero, List.set_cons_succ, List.length_cons, List.length_nil, mz_s1, mz_s2, mz_cl, true_and, and_true, false_and, and_false, List.append_nil, mk_b0, mk_b1, mk_b2, mk_bn, Value.int.injEq, Option.toList_some, Option.toList_none, List.cons_append, List.nil_append, Classical.not_not, Option.some.injEq, reduceCtorEq, ne_eq, not_true_eq_false, not_false_eq_true, false_implies, true_implies, d_Model_sift, j_Model_sift, nF_11, mz_u_s, mz_uu, vp_in_nI (show sm (fun r => cntP q r (S d)) kk + cntP q kk i < 200 by omega) (show 200 < 2 ^ 31 by decide), nI_clamp (show sm (fun r => cntP q r (S d)) kk + cntP q kk i < 2 ^ 31 by omega), n2s _ (show cD d i < 200 by omega), n2sn _ (show cD d i < 200 by omega), nI_add]
      have := ih (i + 1) (upd s (sm (fun r => cntP q r (S d)) kk + cntP q kk i) (nI (cD d i))) (by omega) (fun j hj hj2 => by
        by_cases e : j = i
        · subst e; rw [hpos]; exact pk_us
        · rw [pk_un (fun w => e (posP_inj hj hlt (w.trans hpos.symm)))]
          exact hv j hj (by omega))
      rw [ek] at this
      exact this
    · have ek : cntP q kk (i + 1) = cntP q kk i := by show cntP q kk i + _ = _; rw [if_neg he]; rfl
      have he' : ¬ nI (q i) = nI kk := fun w => he ((nI_eq (by omega) (by omega)).mp w)
      refine mz_go [23] 30 ?_
      simp only [mz_run, ev_0, ev_1, ev_2, ev_3, ev_4, ev_5, ev_6, ev_7, ev_8, ev_9, ev_10, ev_11, ev_12, ev_13, ev_14, ev_15, ev_16, ev_17, ev_18, ev_19, ev_20, ev_21, ev_22, ev_23, ev_24, ev_25, ev_26, ev_27, ev_28, ev_29, ev_30, ev_31, ev_32, ev_33, ev_34, ev_35, ev_36, ev_37, ev_38, ev_39, ev_40, ev_41, ev_42, ev_43, ev_44, ev_45, ev_46, ev_47, ev_48, ev_49, ev_50, ev_51, ev_52, ev_53, ev_54, ev_55, ev_56, ev_57, ev_58, ev_59, ev_60, ev_61, ev_62, ev_63, ev_64, ev_65, ev_66, ev_67, ev_68, ev_69, ev_70, ev_71, ev_72, ev_73, ev_74, ev_75, ev_76, ev_77, ev_78, ev_79, ev_80, ev_81, ev_82, ev_83, mk_lit, mk_fin, mk_cat, mk_fit, mk_nar, mk_fld, mk_cls, mk_ty, mk_isr, List.mem_cons, List.not_mem_nil, or_false, or_true, false_or, true_or, Nat.reduceEqDiff, Nat.reduceAdd, Nat.reduceSub, Nat.reduceLT, Nat.reduceLeDiff, reduceIte, if_true, if_false, List.getElem?_cons_zero, List.getElem?_cons_succ, List.set_cons_zero, List.set_cons_succ, List.length_cons, List.length_nil, mz_s1, mz_s2, mz_cl, true_and, and_true, false_and, and_false, List.append_nil, mk_b0, mk_b1, mk_b2, mk_bn, Value.int.injEq, Option.toList_some, Option.toList_none, List.cons_append, List.nil_append, Classical.not_not, Option.some.injEq, reduceCtorEq, ne_eq, not_true_eq_false, not_false_eq_true, false_implies, true_implies, d_Model_sift, j_Model_sift, nF_11, eq_false he', nI_add]
      have := ih (i + 1) s (by omega) (fun j hj hj2 => hv j hj (by
        rcases hj2 with w | ⟨w1, w2⟩
        · exact Or.inl w
        · by_cases e : j = i
          · subst e; exact absurd w1 he
          · exact Or.inr ⟨w1, by omega⟩))
      rw [ek] at this
      exact this
theorem l_Model_sift1 {cD sD : Nat → Nat → Nat} (G : mz_G) (n : Nat) (f : mz_H) {K ln d col : Nat} {t p br u a : Int32} {S W : Nat → Nat} (z : Bool) (q : Nat → Nat) (hq : q = fun m => pk sD col z (cD d m)) (e158 : f 158 = mo t K ln p br u a) (h : MP f K ln S W cD sD) (hd : d < 8) (hcol : col < 16) (hq11 : ∀ j, j < S d → q j < 11) :
    ∀ m kk s w7 w8, kk + m = 11 → sfI s q (cD d) (S d) kk 0 → mz_X G mk_P 11 false b_Model_sift 9 (some .int) (r_Model_sift 0 0) (sfP f n K ln d col S W cD sD z) (fun _ _ _ => False) 9 [some (.ref 158), some (.int (nI d)), some (.int (nI col)), some (.int (mk_b (z = true))), some (.int (nI (sm (fun r => cntP q r (S d)) kk))), some (.int (nI (us (fun r => cntP q r (S d)) kk))), some (.int (nI kk)), w7, w8] [] 0 0 n (mz_u f 162 (aS 200 s)) := by
  have hK := h.1.2.1
  have hsz := MP_sz h hd
  obtain ⟨g, e160, hg⟩ := h.2.1.2.2
  intro m
  induction m with
  | zero =>
    intro kk s w7 w8 hk hv
    have : kk = 11 := by omega
    subst this
    have e11 := sm_cnt (S d) hq11
    rw [e11]
    refine mz_go [9, 102] 30 ?_
    simp only [mz_run, ev_0, ev_1, ev_2, ev_3, ev_4, ev_5, ev_6, ev_7, ev_8, ev_9, ev_10, ev_11, ev_12, ev_13, ev_14, ev_15, ev_16, ev_17, ev_18, ev_19, ev_20, ev_21, ev_22, ev_23, ev_24, ev_25, ev_26, ev_27, ev_28, ev_29, ev_30, ev_31, ev_32, ev_33, ev_34, ev_35, ev_36, ev_37, ev_38, ev_39, ev_40, ev_41, ev_42, ev_43, ev_44, ev_45, ev_46, ev_47, ev_48, ev_49, ev_50, ev_51, ev_52, ev_53, ev_54, ev_55, ev_56, ev_57, ev_58, ev_59, ev_60, ev_61, ev_62, ev_63, ev_64, ev_65, ev_66, ev_67, ev_68, ev_69, ev_70, ev_71, ev_72, ev_73, ev_74, ev_75, ev_76, ev_77, ev_78, ev_79, ev_80, ev_81, ev_82, ev_83, mk_lit, mk_fin, mk_cat, mk_fit, mk_nar, mk_fld, mk_cls, mk_ty, mk_isr, List.mem_cons, List.not_mem_nil, or_false, or_true, false_or, true_or, Nat.reduceEqDiff, Nat.reduceAdd, Nat.reduceSub, Nat.reduceLT, Nat.reduceLeDiff, reduceIte, if_true, if_false, List.getElem?_cons_zero, List.getElem?_cons_succ, List.set_cons_zero, List.set_cons_succ, List.length_cons, List.length_nil, mz_s1, mz_s2, mz_cl, true_and, and_true, false_and, and_false, List.append_nil, mk_b0, mk_b1, mk_b2, mk_bn, Value.int.injEq, Option.toList_some, Option.toList_none, List.cons_append, List.nil_append, Classical.not_not, Option.some.injEq, reduceCtorEq, ne_eq, not_true_eq_false, not_false_eq_true, false_implies, true_implies, d_Model_sift, j_Model_sift, nF_11, nI_leI (show 11 < 2 ^ 31 by omega) (show 11 < 2 ^ 31 by omega), Nat.le_refl]
    have e160' : (mz_u f 162 (aS 200 s)) 160 = aS 1600 g := (mz_u_n (by decide)).trans e160
    obtain ⟨c', hc'⟩ := pass_pi (π := cD d) hq11
    have hrw : rwR s (S d) K c' := fun j hj => by
      obtain ⟨r, hr, er⟩ := posP_onto hq11 hj
      rw [← er, hc' r hr]
      exact ⟨(hg d r hd hr).1, hv r hr (Or.inl (hq11 r hr))⟩
    have w := l_Model_sift3 G n (mz_u f 162 (aS 200 s)) (c' := c') (w2 := some (.int (nI col))) (w3 := some (.int (mk_b (z = true)))) (w7 := w7) (w8 := w8) (ps := nI (us (fun r => cntP q r (S d)) 11)) (sfP f n K ln d col S W cD sD z) ((mz_u_n (by decide)).trans e158) (MP_162 h s) (mz_u_s _ _ _) hrw hd (fun f' hP hF h9 => ⟨by rw [hq], rfl, ⟨c', hP, by rw [← hq]; exact hc'⟩, FrC_tr (FrC_1 f (by decide) _) hF, p, br, u, a, t, e158, h9⟩) (S d) 0 g (by omega) (bkR_0 hg)
    rw [mz_ui e160'] at w
    exact w
  | succ m ih =>
    intro kk s w7 w8 hk hv
    have ekb : sm (fun r => cntP q r (S d)) (kk + 1) = sm (fun r => cntP q r (S d)) kk + cntP q kk (S d) := rfl
    have eus : us (fun r => cntP q r (S d)) (kk + 1) = us (fun r => cntP q r (S d)) kk + if 0 < cntP q kk (S d) then 1 else 0 := rfl
    have hb := sm_mono (fun r => cntP q r (S d)) (show kk + 1 ≤ 11 by omega)
    rw [sm_cnt (S d) hq11] at hb
    refine mz_go [23] 30 ?_
    simp only [mz_run, ev_0, ev_1, ev_2, ev_3, ev_4, ev_5, ev_6, ev_7, ev_8, ev_9, ev_10, ev_11, ev_12, ev_13, ev_14, ev_15, ev_16, ev_17, ev_18, ev_19, ev_20, ev_21, ev_22, ev_23, ev_24, ev_25, ev_26, ev_27, ev_28, ev_29, ev_30, ev_31, ev_32, ev_33, ev_34, ev_35, ev_36, ev_37, ev_38, ev_39, ev_40, ev_41, ev_42, ev_43, ev_44, ev_45, ev_46, ev_47, ev_48, ev_49, ev_50, ev_51, ev_52, ev_53, ev_54, ev_55, ev_56, ev_57, ev_58, ev_59, ev_60, ev_61, ev_62, ev_63, ev_64, ev_65, ev_66, ev_67, ev_68, ev_69, ev_70, ev_71, ev_72, ev_73, ev_74, ev_75, ev_76, ev_77, ev_78, ev_79, ev_80, ev_81, ev_82, ev_83, mk_lit, mk_fin, mk_cat, mk_fit, mk_nar, mk_fld, mk_cls, mk_ty, mk_isr, List.mem_cons, List.not_mem_nil, or_false, or_true, false_or, true_or, Nat.reduceEqDiff, Nat.reduceAdd, Nat.reduceSub, Nat.reduceLT, Nat.reduceLeDiff, reduceIte, if_true, if_false, List.getElem?_cons_zero, List.getElem?_cons_succ, List.set_cons_zero, List.set_cons_succ, List.length_cons, List.length_nil, mz_s1, mz_s2, mz_cl, true_and, and_true, false_and, and_false, List.append_nil, mk_b0, mk_b1, mk_b2, mk_bn, Value.int.injEq, Option.toList_some, Option.toList_none, List.cons_append, List.nil_append, Classical.not_not, Option.some.injEq, reduceCtorEq, ne_eq, not_true_eq_false, not_false_eq_true, false_implies, true_implies, d_Model_sift, j_Model_sift, nF_11, nI_leI (show 11 < 2 ^ 31 by omega) (show kk < 2 ^ 31 by omega), show ¬ 11 ≤ kk by omega]
    refine l_Model_sift2 G n f (kk := kk) (ps := nI (us (fun r => cntP q r (S d)) kk)) z _ q hq e158 h hd hcol (by omega) hq11 ?_ (S d) 0 s (by omega) hv
    intro s' hv'
    have nx := fun w7 w8 => ih (kk + 1) s' w7 w8 (by omega) hv'
    rw [ekb, eus] at nx
    rw [ekb] at hb
    by_cases h0 : 0 < cntP q kk (S d)
    · rw [if_pos h0] at nx
      refine mz_go [9] 30 ?_
      simp only [mz_run, ev_0, ev_1, ev_2, ev_3, ev_4, ev_5, ev_6, ev_7, ev_8, ev_9, ev_10, ev_11, ev_12, ev_13, ev_14, ev_15, ev_16, ev_17, ev_18, ev_19, ev_20, ev_21, ev_22, ev_23, ev_24, ev_25, ev_26, ev_27, ev_28, ev_29, ev_30, ev_31, ev_32, ev_33, ev_34, ev_35, ev_36, ev_37, ev_38, ev_39, ev_40, ev_41, ev_42, ev_43, ev_44, ev_45, ev_46, ev_47, ev_48, ev_49, ev_50, ev_51, ev_52, ev_53, ev_54, ev_55, ev_56, ev_57, ev_58, ev_59, ev_60, ev_61, ev_62, ev_63, ev_64, ev_65, ev_66, ev_67, ev_68, ev_69, ev_70, ev_71, ev_72, ev_73, ev_74, ev_75, ev_76, ev_77, ev_78, ev_79, ev_80, ev_81, ev_82, ev_83, mk_lit, mk_fin, mk_cat, mk_fit, mk_nar, mk_fld, mk_cls, mk_ty, mk_isr, List.mem_cons, List.not_mem_nil, or_false, or_true, false_or, true_or, Nat.reduceEqDiff, Nat.reduceAdd, Nat.reduceSub, Nat.reduceLT, Nat.reduceLeDiff, reduceIte, if_true, if_false, List.getElem?_cons_zero, List.getElem?_cons_succ, List.set_cons_zero, List.set_cons_succ, List.length_cons, List.length_nil, mz_s1, mz_s2, mz_cl, true_and, and_true, false_and, and_false, List.append_nil, mk_b0, mk_b1, mk_b2, mk_bn, Value.int.injEq, Option.toList_some, Option.toList_none, List.cons_append, List.nil_append, Classical.not_not, Option.some.injEq, reduceCtorEq, ne_eq, not_true_eq_false, not_false_eq_true, false_implies, true_implies, d_Model_sift, j_Model_sift, nF_11, nI_add, nI_leI (show sm (fun r => cntP q r (S d)) kk + cntP q kk (S d) < 2 ^ 31 by omega) (show sm (fun r => cntP q r (S d)) kk < 2 ^ 31 by omega), show ¬ sm (fun r => cntP q r (S d)) kk + cntP q kk (S d) ≤ sm (fun r => cntP q r (S d)) kk by omega]
      exact nx _ _
    · rw [if_neg h0] at nx
      refine mz_go [9] 30 ?_
      simp only [mz_run, ev_0, ev_1, ev_2, ev_3, ev_4, ev_5, ev_6, ev_7, ev_8, ev_9, ev_10, ev_11, ev_12, ev_13, ev_14, ev_15, ev_16, ev_17, ev_18, ev_19, ev_20, ev_21, ev_22, ev_23, ev_24, ev_25, ev_26, ev_27, ev_28, ev_29, ev_30, ev_31, ev_32, ev_33, ev_34, ev_35, ev_36, ev_37, ev_38, ev_39, ev_40, ev_41, ev_42, ev_43, ev_44, ev_45, ev_46, ev_47, ev_48, ev_49, ev_50, ev_51, ev_52, ev_53, ev_54, ev_55, ev_56, ev_57, ev_58, ev_59, ev_60, ev_61, ev_62, ev_63, ev_64, ev_65, ev_66, ev_67, ev_68, ev_69, ev_70, ev_71, ev_72, ev_73, ev_74, ev_75, ev_76, ev_77, ev_78, ev_79, ev_80, ev_81, ev_82, ev_83, mk_lit, mk_fin, mk_cat, mk_fit, mk_nar, mk_fld, mk_cls, mk_ty, mk_isr, List.mem_cons, List.not_mem_nil, or_false, or_true, false_or, true_or, Nat.reduceEqDiff, Nat.reduceAdd, Nat.reduceSub, Nat.reduceLT, Nat.reduceLeDiff, reduceIte, if_true, if_false, List.getElem?_cons_zero, List.getElem?_cons_succ, List.set_cons_zero, List.set_cons_succ, List.length_cons, List.length_nil, mz_s1, mz_s2, mz_cl, true_and, and_true, false_and, and_false, List.append_nil, mk_b0, mk_b1, mk_b2, mk_bn, Value.int.injEq, Option.toList_some, Option.toList_none, List.cons_append, List.nil_append, Classical.not_not, Option.some.injEq, reduceCtorEq, ne_eq, not_true_eq_false, not_false_eq_true, false_implies, true_implies, d_Model_sift, j_Model_sift, nF_11, nI_add, nI_leI (show sm (fun r => cntP q r (S d)) kk + cntP q kk (S d) < 2 ^ 31 by omega) (show sm (fun r => cntP q r (S d)) kk < 2 ^ 31 by omega), show sm (fun r => cntP q r (S d)) kk + cntP q kk (S d) ≤ sm (fun r => cntP q r (S d)) kk by omega]
      exact nx _ _
theorem c_Model_sift {cD sD : Nat → Nat → Nat} (G : mz_G) (n : Nat) (f : mz_H) {K ln d col : Nat} {S W : Nat → Nat} (z : Bool) (h : MP f K ln S W cD sD) (hd : d < 8) (hcol : col < 16) : mz_Ct G mk_P y_Model_sift b_Model_sift 9 (some .int) (r_Model_sift 0 0) [.ref 158, .int (nI d), .int (nI col), .int (mk_b (z = true))] n f (sfP f n K ln d col S W cD sD z) := by
  obtain ⟨t, p, br, u, a, e158⟩ := h.1.1
  obtain ⟨s, e162⟩ := h.2.2.2.2.1
  refine mk_Ct 11 false [some (.ref 158), some (.int (nI d)), some (.int (nI col)), some (.int (mk_b (z = true))), none, none, none, none, none] (by decide) rfl (by decide) (Nat.le_of_ble_eq_true rfl) rfl ?_
  refine mz_go [9] 30 ?_
  simp only [mz_run, ev_0, ev_1, ev_2, ev_3, ev_4, ev_5, ev_6, ev_7, ev_8, ev_9, ev_10, ev_11, ev_12, ev_13, ev_14, ev_15, ev_16, ev_17, ev_18, ev_19, ev_20, ev_21, ev_22, ev_23, ev_24, ev_25, ev_26, ev_27, ev_28, ev_29, ev_30, ev_31, ev_32, ev_33, ev_34, ev_35, ev_36, ev_37, ev_38, ev_39, ev_40, ev_41, ev_42, ev_43, ev_44, ev_45, ev_46, ev_47, ev_48, ev_49, ev_50, ev_51, ev_52, ev_53, ev_54, ev_55, ev_56, ev_57, ev_58, ev_59, ev_60, ev_61, ev_62, ev_63, ev_64, ev_65, ev_66, ev_67, ev_68, ev_69, ev_70, ev_71, ev_72, ev_73, ev_74, ev_75, ev_76, ev_77, ev_78, ev_79, ev_80, ev_81, ev_82, ev_83, mk_lit, mk_fin, mk_cat, mk_fit, mk_nar, mk_fld, mk_cls, mk_ty, mk_isr, List.mem_cons, List.not_mem_nil, or_false, or_true, false_or, true_or, Nat.reduceEqDiff, Nat.reduceAdd, Nat.reduceSub, Nat.reduceLT, Nat.reduceLeDiff, reduceIte, if_true, if_false, List.getElem?_cons_zero, List.getElem?_cons_succ, List.set_cons_zero, List.set_cons_succ, List.length_cons, List.length_nil, mz_s1, mz_s2, mz_cl, true_and, and_true, false_and, and_false, List.append_nil, mk_b0, mk_b1, mk_b2, mk_bn, Value.int.injEq, Option.toList_some, Option.toList_none, List.cons_append, List.nil_append, Classical.not_not, Option.some.injEq, reduceCtorEq, ne_eq, not_true_eq_false, not_false_eq_true, false_implies, true_implies, d_Model_sift, j_Model_sift, nF_11]
  have := l_Model_sift1 G n f z _ rfl e158 h hd hcol (fun j hj => pok_lt (MP_sg h (MP_cd h hd hj) hcol)) 11 0 s none none rfl (fun j hj hj2 => by omega)
  rw [mz_ui e162] at this
  exact this
