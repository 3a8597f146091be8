def MJ (f : mz_H) (K : Nat) (S : Nat → Nat) (cD sD : Nat → Nat → Nat) : Prop := ∃ ln W, MP f K ln S W cD sD ∧ s8 S ≤ K
/-- what the reference says of a call that throws -/
def thr (f : mz_H) (k : Int32) : Prop := ∃ k0 l p b u a, f 158 = moI k k0 l p b u a
theorem thq_r {f F : mz_H} {k : Int32} {φ : mS → mS} (h : thq f F k φ) : thr F k := by
  obtain ⟨t, k0, l, m, k1, -, e⟩ := h
  exact ⟨k1, l, _, _, _, _, e⟩
theorem Md_add {f : mz_H} {K x d : Nat} {S : Nat → Nat} {g : Nat → Int32} {cD : Nat → Nat → Nat} (h1 : f 161 = aI 8 (fun j => nI (va_up S d (S d + 1) j))) (hd : d < 8) (hx : x < K) (h3 : f 160 = aS 1600 (upd g (200 * d + S d) (nI x))) (h4 : ∀ d i, d < 8 → i < S d → cD d i < K ∧ g (200 * d + i) = nI (cD d i)) (hS : ∀ d, d < 8 → S d ≤ 200) (hSd : S d < 200) : Md f K (va_up S d (S d + 1)) (va_up cD d (va_up (cD d) (S d) x)) := by
  refine ⟨h1, ?_, _, h3, fun d' i hd' hi => ?_⟩
  · intro d' hd'
    by_cases e : d' = d
    · subst e; rw [va_up_s]; omega
    · rw [va_up_n e]; exact hS d' hd'
  · by_cases e : d' = d
    · subst e
      rw [va_up_s] at hi
      rw [va_up_s]
      by_cases e2 : i = S d'
      · subst e2; rw [va_up_s]; exact ⟨hx, pk_us⟩
      · rw [va_up_n e2, pk_un (by omega)]; exact h4 d' i hd (by omega)
    · rw [va_up_n e] at hi
      have := hS d' hd'
      rw [va_up_n e, pk_un (by omega)]; exact h4 d' i hd' hi
theorem c_Model_add {cD sD : Nat → Nat → Nat} (G : mz_G) (n : Nat) (f : mz_H) {K ln d x : Nat} {S W : Nat → Nat} (h : MP f K ln S W cD sD) (hd : d < 8) (hx : x < K) (hsd : S d < 200) : mz_Ct G mk_P y_Model_add b_Model_add 3 none (r_Model_add 0 0) [.ref 158, .int (nI d), .int (nI x)] n f (fun v n' f' => v = none ∧ n' = n ∧ MP f' K ln (va_up S d (S d + 1)) W (va_up cD d (va_up (cD d) (S d) x)) sD ∧ ∀ q, q ≠ 160 → q ≠ 161 → f' q = f q) := by
  obtain ⟨t, p, b, u, a, e158⟩ := h.1.1
  obtain ⟨e161, -, g, e160, hg⟩ := id h.2.1
  have hK := h.1.2.1
  refine mk_Ct 11 false [some (.ref 158), some (.int (nI d)), some (.int (nI x))] (by decide) rfl (by decide) (Nat.le_of_ble_eq_true rfl) rfl ?_
  refine mz_go [] 40 ?_
  simp only [mz_r0, ev_0, ev_1, ev_2, ev_3, ev_4, ev_5, ev_6, ev_7, ev_8, ev_9, ev_10, ev_11, ev_12, ev_13, ev_14, ev_15, ev_16, ev_17, ev_18, ev_19, ev_20, ev_21, ev_22, ev_23, ev_24, ev_25, ev_26, ev_27, ev_28, ev_29, ev_30, ev_31, ev_32, ev_33, ev_34, ev_35, ev_36, ev_37, ev_38, ev_39, ev_40, ev_41, ev_42, ev_43, ev_44, ev_45, ev_46, ev_47, ev_48, ev_49, ev_50, ev_51, ev_52, ev_53, ev_54, ev_55, ev_56, ev_57, ev_58, ev_59, ev_60, ev_61, ev_62, ev_63, ev_64, ev_65, ev_66, ev_67, ev_68, ev_69, ev_70, ev_71, ev_72, ev_73, ev_74, ev_75, ev_76, ev_77, ev_78, ev_79, ev_80, ev_81, ev_82, ev_83, mk_lit, mk_fin, mk_cat, mk_fit, mk_nar, mk_fld, mk_cls, mk_ty, mk_isr, List.mem_cons, List.not_mem_nil, or_false, or_true, false_or, true_or, Nat.reduceEqDiff, Nat.reduceAdd, Nat.reduceSub, Nat.reduceLT, Nat.reduceLeDiff, ↓reduceIte, if_true, if_false, List.getElem?_cons_zero, List.getElem?_cons_succ, List.set_cons_zero, List.set_cons_succ, List.length_cons, List.length_nil, mz_s1, mz_s2, mz_cl, true_and, and_true, false_and, and_false, List.append_nil, mk_b0, mk_b1, mk_b2, mk_bn, Value.int.injEq, Option.toList_some, Option.toList_none, List.cons_append, List.nil_append, Classical.not_not, Option.some.injEq, reduceCtorEq, ne_eq, not_true_eq_false, not_false_eq_true, false_implies, true_implies, mz_rl d_Model_add_0, mz_rl d_Model_add_1, mz_rl d_Model_add_4, mz_rl d_Model_add_7, mz_rl d_Model_add_8, mz_rl d_Model_add_9, mz_rl d_Model_add_10, mz_rl d_Model_add_13, mz_rl d_Model_add_14, mz_rl d_Model_add_15, mz_rl d_Model_add_16, mz_rl d_Model_add_17, mz_rl d_Model_add_18, mz_rl d_Model_add_19, mz_rl d_Model_add_20, mz_rl d_Model_add_23, mz_rl d_Model_add_24, mz_rl d_Model_add_25, mz_rl d_Model_add_26, mz_rl d_Model_add_27, mz_rl d_Model_add_28, mz_rl d_Model_add_29, nF_11, e158, e160, e161, mo, pk_mul, nI_add, vp_in_nI (show d < 8 by omega) (show 8 < 2 ^ 31 by decide), nI_clamp (show d < 2 ^ 31 by omega), vp_in_nI (show 200 * d + S d < 1600 by omega) (show 1600 < 2 ^ 31 by decide), nI_clamp (show 200 * d + S d < 2 ^ 31 by omega), n2s x (by omega), n2sn x (by omega), mz_u_n (show 158 ≠ 160 by decide), mz_u_n (show 161 ≠ 160 by decide), upd_nI]
  refine ⟨MP_dk h (fun q z1 z2 => ?_) (Md_add (mz_u_s _ _ _) hd hx ?_ hg (fun d hd => MP_sz h hd) (by omega)), fun q z1 z2 => ?_⟩
  · rw [mz_u_n z2, mz_u_n z1]
  · rw [mz_u_n (by decide), mz_u_s]
  · rw [mz_u_n z2, mz_u_n z1]
theorem l_Model_newCard (G : mz_G) (n : Nat) (f : mz_H) {K ln : Nat} {t p b u a : Int32} {g0 : Nat → Int32} (e158 : f 158 = mo t K ln p b u a) (hK : K < 200) :
    ∀ m k g, k + m = 16 → (∀ q, q < 16 * K → g q = g0 q) → (∀ j, j < k → g (16 * K + j) = nI 32) → mz_X G mk_P 11 false b_Model_newCard 2 (some .int) (r_Model_newCard 0 0) (fun v n' f' => v = some (.int (nI K)) ∧ n' = n ∧ ∃ g, f' = mz_u (mz_u f 159 (aB 3200 g)) 158 (mo t (K + 1) ln p b u a) ∧ (∀ q, q < 16 * K → g q = g0 q) ∧ ∀ j, j < 16 → g (16 * K + j) = nI 32) (fun _ _ _ => False) 2 [some (.ref 158), some (.int (nI k))] [] 0 0 n (mz_u f 159 (aB 3200 g)) := by
  have esub : nI (K + 1) - nI 1 = nI K := pk_sub (by omega)
  intro m
  induction m with
  | zero =>
    intro k g hk h1 h2
    have : k = 16 := by omega
    subst this
    refine mz_go [2] 30 ?_
    simp only [mz_r0, ev_0, ev_1, ev_2, ev_3, ev_4, ev_5, ev_6, ev_7, ev_8, ev_9, ev_10, ev_11, ev_12, ev_13, ev_14, ev_15, ev_16, ev_17, ev_18, ev_19, ev_20, ev_21, ev_22, ev_23, ev_24, ev_25, ev_26, ev_27, ev_28, ev_29, ev_30, ev_31, ev_32, ev_33, ev_34, ev_35, ev_36, ev_37, ev_38, ev_39, ev_40, ev_41, ev_42, ev_43, ev_44, ev_45, ev_46, ev_47, ev_48, ev_49, ev_50, ev_51, ev_52, ev_53, ev_54, ev_55, ev_56, ev_57, ev_58, ev_59, ev_60, ev_61, ev_62, ev_63, ev_64, ev_65, ev_66, ev_67, ev_68, ev_69, ev_70, ev_71, ev_72, ev_73, ev_74, ev_75, ev_76, ev_77, ev_78, ev_79, ev_80, ev_81, ev_82, ev_83, mk_lit, mk_fin, mk_cat, mk_fit, mk_nar, mk_fld, mk_cls, mk_ty, mk_isr, List.mem_cons, List.not_mem_nil, or_false, or_true, false_or, true_or, Nat.reduceEqDiff, Nat.reduceAdd, Nat.reduceSub, Nat.reduceLT, Nat.reduceLeDiff, ↓reduceIte, if_true, if_false, List.getElem?_cons_zero, List.getElem?_cons_succ, List.set_cons_zero, List.set_cons_succ, List.length_cons, List.length_nil, mz_s1, mz_s2, mz_cl, true_and, and_true, false_and, and_false, List.append_nil, mk_b0, mk_b1, mk_b2, mk_bn, Value.int.injEq, Option.toList_some, Option.toList_none, List.cons_append, List.nil_append, Classical.not_not, Option.some.injEq, reduceCtorEq, ne_eq, not_true_eq_false, not_false_eq_true, false_implies, true_implies, mz_rl d_Model_newCard_2, mz_rl d_Model_newCard_3, mz_rl d_Model_newCard_5, mz_rl d_Model_newCard_8, mz_rl d_Model_newCard_9, mz_rl d_Model_newCard_12, mz_rl d_Model_newCard_14, mz_rl d_Model_newCard_15, mz_rl d_Model_newCard_18, mz_rl d_Model_newCard_19, mz_rl d_Model_newCard_20, mz_rl d_Model_newCard_21, mz_rl d_Model_newCard_23, mz_rl d_Model_newCard_24, mz_rl d_Model_newCard_27, mz_rl d_Model_newCard_30, mz_rl d_Model_newCard_31, mz_rl d_Model_newCard_32, mz_rl d_Model_newCard_35, mz_rl d_Model_newCard_36, mz_rl d_Model_newCard_37, mz_rl d_Model_newCard_40, mz_rl d_Model_newCard_41, mz_rl d_Model_newCard_44, mz_rl d_Model_newCard_45, mz_rl d_Model_newCard_46, j_Model_newCard_5, j_Model_newCard_27, nF_11, nI_leI (show 16 < 2 ^ 31 by omega) (show 16 < 2 ^ 31 by omega), Nat.le_refl, e158, mo, mz_u_n (show 158 ≠ 159 by decide), nI_add, mz_u_s, esub]
    exact ⟨g, rfl, h1, h2⟩
  | succ m ih =>
    intro k g hk h1 h2
    refine mz_go [2] 30 ?_
    simp only [mz_r0, ev_0, ev_1, ev_2, ev_3, ev_4, ev_5, ev_6, ev_7, ev_8, ev_9, ev_10, ev_11, ev_12, ev_13, ev_14, ev_15, ev_16, ev_17, ev_18, ev_19, ev_20, ev_21, ev_22, ev_23, ev_24, ev_25, ev_26, ev_27, ev_28, ev_29, ev_30, ev_31, ev_32, ev_33, ev_34, ev_35, ev_36, ev_37, ev_38, ev_39, ev_40, ev_41, ev_42, ev_43, ev_44, ev_45, ev_46, ev_47, ev_48, ev_49, ev_50, ev_51, ev_52, ev_53, ev_54, ev_55, ev_56, ev_57, ev_58, ev_59, ev_60, ev_61, ev_62, ev_63, ev_64, ev_65, ev_66, ev_67, ev_68, ev_69, ev_70, ev_71, ev_72, ev_73, ev_74, ev_75, ev_76, ev_77, ev_78, ev_79, ev_80, ev_81, ev_82, ev_83, mk_lit, mk_fin, mk_cat, mk_fit, mk_nar, mk_fld, mk_cls, mk_ty, mk_isr, List.mem_cons, List.not_mem_nil, or_false, or_true, false_or, true_or, Nat.reduceEqDiff, Nat.reduceAdd, Nat.reduceSub, Nat.reduceLT, Nat.reduceLeDiff, ↓reduceIte, if_true, if_false, List.getElem?_cons_zero, List.getElem?_cons_succ, List.set_cons_zero, List.set_cons_succ, List.length_cons, List.length_nil, mz_s1, mz_s2, mz_cl, true_and, and_true, false_and, and_false, List.append_nil, mk_b0, mk_b1, mk_b2, mk_bn, Value.int.injEq, Option.toList_some, Option.toList_none, List.cons_append, List.nil_append, Classical.not_not, Option.some.injEq, reduceCtorEq, ne_eq, not_true_eq_false, not_false_eq_true, false_implies, true_implies, mz_rl d_Model_newCard_2, mz_rl d_Model_newCard_3, mz_rl d_Model_newCard_5, mz_rl d_Model_newCard_8, mz_rl d_Model_newCard_9, mz_rl d_Model_newCard_12, mz_rl d_Model_newCard_14, mz_rl d_Model_newCard_15, mz_rl d_Model_newCard_18, mz_rl d_Model_newCard_19, mz_rl d_Model_newCard_20, mz_rl d_Model_newCard_21, mz_rl d_Model_newCard_23, mz_rl d_Model_newCard_24, mz_rl d_Model_newCard_27, mz_rl d_Model_newCard_30, mz_rl d_Model_newCard_31, mz_rl d_Model_newCard_32, mz_rl d_Model_newCard_35, mz_rl d_Model_newCard_36, mz_rl d_Model_newCard_37, mz_rl d_Model_newCard_40, mz_rl d_Model_newCard_41, mz_rl d_Model_newCard_44, mz_rl d_Model_newCard_45, mz_rl d_Model_newCard_46, j_Model_newCard_5, j_Model_newCard_27, nF_11, nI_leI (show 16 < 2 ^ 31 by omega) (show k < 2 ^ 31 by omega), show ¬ 16 ≤ k by omega, e158, mo, mz_u_n (show 158 ≠ 159 by decide), pk_mul, nI_add, mz_u_s, mz_uu, vp_in_nI (show 16 * K + k < 3200 by omega) (show 3200 < 2 ^ 31 by decide), nI_clamp (show 16 * K + k < 2 ^ 31 by omega)]
    refine ih (k + 1) _ (by omega) (fun q hq => by rw [pk_un (by omega)]; exact h1 q hq) (fun j hj => ?_)
    by_cases e : j = k
    · subst e; rw [pk_us]; decide
    · rw [pk_un (by omega)]; exact h2 j (by omega)
/-- a new card, blank -/
theorem MP_new {cD sD : Nat → Nat → Nat} {f : mz_H} {K ln : Nat} {S W : Nat → Nat} {g g0 : Nat → Int32} {t p b u a : Int32} (h : MP f K ln S W cD sD) (e159 : f 159 = aB 3200 g0) (hK : K < 200) (h1 : ∀ q, q < 16 * K → g q = g0 q) (h2 : ∀ j, j < 16 → g (16 * K + j) = nI 32) : MP (mz_u (mz_u f 159 (aB 3200 g)) 158 (mo t (K + 1) ln p b u a)) (K + 1) ln S W cD (va_up sD K (fun _ => 32)) := by
  obtain ⟨q1, q2, e, e160, he⟩ := h.2.1
  obtain ⟨⟨g9, e159', hsg⟩, x2, x3, x4, x5, x6, x7⟩ := h.2.2.2
  have e9 : g9 = g0 := (aB_inj (e159.symm.trans e159')).symm
  subst e9
  have ne : ∀ q, q ≠ 158 → q ≠ 159 → mz_u (mz_u f 159 (aB 3200 g)) 158 (mo t (K + 1) ln p b u a) q = f q := fun q z1 z2 => by rw [mz_u_n z1, mz_u_n z2]
  refine ⟨⟨⟨t, p, b, u, a, mz_u_s _ _ _⟩, hK, h.1.2.2⟩, ⟨(ne _ (by decide) (by decide)).trans q1, q2, e, (ne _ (by decide) (by decide)).trans e160, fun d i hd hi => ⟨Nat.lt_succ_of_lt (he d i hd hi).1, (he d i hd hi).2⟩⟩, Mw_eq h.2.2.1 (ne _ (by decide) (by decide)) (ne _ (by decide) (by decide)) (ne _ (by decide) (by decide)), ⟨⟨g, by rw [mz_u_n (by decide), mz_u_s], fun x j hx hj => ?_⟩, ?_, ?_, ?_, ?_, ?_, ?_⟩⟩
  · by_cases ex : x = K
    · subst ex; rw [va_up_s]; exact ⟨Or.inl rfl, h2 j hj⟩
    · rw [va_up_n ex, h1 _ (by omega)]; exact hsg x j (by omega) hj
  all_goals (rw [ne _ (by decide) (by decide)]; assumption)
theorem c_Model_newCard {cD sD : Nat → Nat → Nat} (G : mz_G) (n : Nat) (f : mz_H) {K ln : Nat} {t p b u a : Int32} {S W : Nat → Nat} (e158 : f 158 = mo t K ln p b u a) (h : MP f K ln S W cD sD) (hK : K < 200) : mz_Ct G mk_P y_Model_newCard b_Model_newCard 2 (some .int) (r_Model_newCard 0 0) [.ref 158] n f (fun v n' f' => v = some (.int (nI K)) ∧ n' = n ∧ MP f' (K + 1) ln S W cD (va_up sD K (fun _ => 32)) ∧ f' 158 = mo t (K + 1) ln p b u a ∧ ∀ q, q ≠ 158 → q ≠ 159 → f' q = f q) := by
  obtain ⟨g, e159, hsg⟩ := h.2.2.2.1
  refine mk_Ct 11 false [some (.ref 158), none] (by decide) rfl (by decide) (Nat.le_of_ble_eq_true rfl) rfl ?_
  refine mz_go [2] 30 ?_
  simp only [mz_r0, ev_0, ev_1, ev_2, ev_3, ev_4, ev_5, ev_6, ev_7, ev_8, ev_9, ev_10, ev_11, ev_12, ev_13, ev_14, ev_15, ev_16, ev_17, ev_18, ev_19, ev_20, ev_21, ev_22, ev_23, ev_24, ev_25, ev_26, ev_27, ev_28, ev_29, ev_30, ev_31, ev_32, ev_33, ev_34, ev_35, ev_36, ev_37, ev_38, ev_39, ev_40, ev_41, ev_42, ev_43, ev_44, ev_45, ev_46, ev_47, ev_48, ev_49, ev_50, ev_51, ev_52, ev_53, ev_54, ev_55, ev_56, ev_57, ev_58, ev_59, ev_60, ev_61, ev_62, ev_63, ev_64, ev_65, ev_66, ev_67, ev_68, ev_69, ev_70, ev_71, ev_72, ev_73, ev_74, ev_75, ev_76, ev_77, ev_78, ev_79, ev_80, ev_81, ev_82, ev_83, mk_lit, mk_fin, mk_cat, mk_fit, mk_nar, mk_fld, mk_cls, mk_ty, mk_isr, List.mem_cons, List.not_mem_nil, or_false, or_true, false_or, true_or, Nat.reduceEqDiff, Nat.reduceAdd, Nat.reduceSub, Nat.reduceLT, Nat.reduceLeDiff, ↓reduceIte, if_true, if_false, List.getElem?_cons_zero, List.getElem?_cons_succ, List.set_cons_zero, List.set_cons_succ, List.length_cons, List.length_nil, mz_s1, mz_s2, mz_cl, true_and, and_true, false_and, and_false, List.append_nil, mk_b0, mk_b1, mk_b2, mk_bn, Value.int.injEq, Option.toList_some, Option.toList_none, List.cons_append, List.nil_append, Classical.not_not, Option.some.injEq, reduceCtorEq, ne_eq, not_true_eq_false, not_false_eq_true, false_implies, true_implies, mz_rl d_Model_newCard_0, mz_rl d_Model_newCard_1, nF_11]
  have := l_Model_newCard G n f (g0 := g) e158 hK 16 0 g rfl (fun _ _ => rfl) (fun j hj => absurd hj (by omega))
  rw [mz_ui e159] at this
  refine mz_mono ?_ this
  rintro v n' f' ⟨h1, h2, g', rfl, h3, h4⟩
  exact ⟨h1, h2, MP_new h e159 hK h3 h4, mz_u_s _ _ _, fun q z1 z2 => by rw [mz_u_n z1, mz_u_n z2]⟩
/-- one sign of a card -/
theorem MP_put {cD sD : Nat → Nat → Nat} {f : mz_H} {K ln x j v : Nat} {S W : Nat → Nat} {g : Nat → Int32} (h : MP f K ln S W cD sD) (e159 : f 159 = aB 3200 g) (hx : x < K) (hj : j < 16) (hv : sg v) : MP (mz_u f 159 (aB 3200 (upd g (16 * x + j) (nI v)))) K ln S W cD (va_up sD x (va_up (sD x) j v)) := by
  obtain ⟨g9, e159', hsg⟩ := h.2.2.2.1
  have e9 : g9 = g := (aB_inj (e159.symm.trans e159')).symm
  subst e9
  refine MP_159 h _ (fun x' j' hx' hj' => ?_)
  by_cases ex : x' = x
  · subst ex
    rw [va_up_s]
    by_cases ej : j' = j
    · subst ej; rw [va_up_s, pk_us]; exact ⟨hv, rfl⟩
    · rw [va_up_n ej, pk_un (by omega)]; exact hsg x' j' hx' hj'
  · rw [va_up_n ex, pk_un (by omega)]; exact hsg x' j' hx' hj'
theorem c_Model_fails (G : mz_G) (n : Nat) (f : mz_H) {K ln : Nat} {t p b u a : Int32} (x y : Int32) (e158 : f 158 = mo t K ln p b u a) : mz_Ct G mk_P y_Model_fails b_Model_fails 3 (some .int) (r_Model_fails 0 0) [.ref 158, .int x, .int y] n f (fun v n' f' => v = some (.int y) ∧ n' = n ∧ f' = mz_u f 158 (mo t K ln p b x y)) := by
  refine mk_Ct 11 false [some (.ref 158), some (.int x), some (.int y)] (by decide) rfl (by decide) (Nat.le_of_ble_eq_true rfl) rfl ?_
  refine mz_go [] 30 ?_
  simp only [mz_r0, ev_0, ev_1, ev_2, ev_3, ev_4, ev_5, ev_6, ev_7, ev_8, ev_9, ev_10, ev_11, ev_12, ev_13, ev_14, ev_15, ev_16, ev_17, ev_18, ev_19, ev_20, ev_21, ev_22, ev_23, ev_24, ev_25, ev_26, ev_27, ev_28, ev_29, ev_30, ev_31, ev_32, ev_33, ev_34, ev_35, ev_36, ev_37, ev_38, ev_39, ev_40, ev_41, ev_42, ev_43, ev_44, ev_45, ev_46, ev_47, ev_48, ev_49, ev_50, ev_51, ev_52, ev_53, ev_54, ev_55, ev_56, ev_57, ev_58, ev_59, ev_60, ev_61, ev_62, ev_63, ev_64, ev_65, ev_66, ev_67, ev_68, ev_69, ev_70, ev_71, ev_72, ev_73, ev_74, ev_75, ev_76, ev_77, ev_78, ev_79, ev_80, ev_81, ev_82, ev_83, mk_lit, mk_fin, mk_cat, mk_fit, mk_nar, mk_fld, mk_cls, mk_ty, mk_isr, List.mem_cons, List.not_mem_nil, or_false, or_true, false_or, true_or, Nat.reduceEqDiff, Nat.reduceAdd, Nat.reduceSub, Nat.reduceLT, Nat.reduceLeDiff, ↓reduceIte, if_true, if_false, List.getElem?_cons_zero, List.getElem?_cons_succ, List.set_cons_zero, List.set_cons_succ, List.length_cons, List.length_nil, mz_s1, mz_s2, mz_cl, true_and, and_true, false_and, and_false, List.append_nil, mk_b0, mk_b1, mk_b2, mk_bn, Value.int.injEq, Option.toList_some, Option.toList_none, List.cons_append, List.nil_append, Classical.not_not, Option.some.injEq, reduceCtorEq, ne_eq, not_true_eq_false, not_false_eq_true, false_implies, true_implies, mz_rl d_Model_fails_0, mz_rl d_Model_fails_1, mz_rl d_Model_fails_2, mz_rl d_Model_fails_5, mz_rl d_Model_fails_6, mz_rl d_Model_fails_7, mz_rl d_Model_fails_10, mz_rl d_Model_fails_11, nF_11, e158, mo, mz_u_s, mz_uu]
theorem m1s (x : Int32) : x + (-1) = x - nI 1 := by rw [Int32.sub_eq_add_neg]; rfl
theorem sD_ext {f : mz_H} {K ln : Nat} {S W : Nat → Nat} {cD sD sE : Nat → Nat → Nat} (h : MP f K ln S W cD sD) (e : ∀ x j, x < K → j < 16 → sD x j = sE x j) : MP f K ln S W cD sE := by
  obtain ⟨h1, h2, h3, ⟨g, e159, hsg⟩, h4⟩ := h
  exact ⟨h1, h2, h3, ⟨g, e159, fun x j hx hj => by rw [← e x j hx hj]; exact hsg x j hx hj⟩, h4⟩
/-- the number punched from column k on -/
def pmN (s : Nat → Nat) (r y k : Nat) : Nat → Nat := fun j => if k ≤ j ∧ j < y % 16 + (y / 16 + 1) then snN r y j else s j
theorem pmN_up (s : Nat → Nat) {r y k : Nat} (hk : k < y % 16 + (y / 16 + 1)) : va_up (pmN s r y (k + 1)) k (snN r y k) = pmN s r y k := by
  funext j
  unfold va_up pmN
  by_cases e : j = k
  · subst e; rw [if_pos rfl, if_pos ⟨Nat.le_refl _, hk⟩]
  · rw [if_neg e]
    by_cases e2 : k + 1 ≤ j ∧ j < y % 16 + (y / 16 + 1)
    · rw [if_pos e2, if_pos (by omega)]
    · rw [if_neg e2, if_neg (by omega)]
theorem va_uu {α : Type} (g : Nat → α) (k : Nat) (v w : α) : va_up (va_up g k v) k w = va_up g k w := by
  funext j; unfold va_up; by_cases e : j = k <;> simp [e]
def puP (f : mz_H) (n K ln x y r : Nat) (S W : Nat → Nat) (cD sD : Nat → Nat → Nat) (z : Bool) (v : Option Value) (n' : Nat) (f' : mz_H) : Prop := v = some (.int (mk_b (ctB (sD x) r y (y % 16) (y / 16 + 1) = true))) ∧ n' = n ∧ MP f' K ln S W cD (if z = true then va_up sD x (pmN (sD x) r y (y % 16)) else sD) ∧ ∀ q, q ≠ 159 → f' q = f q
theorem l_Model_punches {cD sD : Nat → Nat → Nat} (G : mz_G) (n : Nat) (f0 : mz_H) {K ln x y r : Nat} {S W : Nat → Nat} {t p b u a : Int32} {L : Int64} (z : Bool) (hx : x < K) (hy : facOk y) (hr : r < 2 ^ 62) :
    ∀ m f (k : Int32) w, m ≤ y / 16 + 1 → k = nI (y % 16 + m) - nI 1 → f 158 = mo t K ln p b u a → MP f K ln S W cD (if z = true then va_up sD x (pmN (sD x) r y (y % 16 + m)) else sD) → (∀ q, q ≠ 159 → f q = f0 q) → mz_X G mk_P 11 false b_Model_punches 11 (some .boolean) (r_Model_punches 0 0) (puP f0 n K ln x y r S W cD sD z) (fun _ _ _ => False) 17 [some (.ref 158), some (.int (nI x)), some (.int (nI y)), some (.long L), none, some (.int (mk_b (z = true))), some (.long (lN (r / 10 ^ (y / 16 + 1 - m)))), none, some (.int (mk_b (ctB (sD x) r y (y % 16 + m) (y / 16 + 1 - m) = true))), some (.int k), w] [] 0 0 n f := by
  obtain ⟨hy1, hy2⟩ := hy
  have z10 : ¬ (lN 10 : Int64) = 0 := by decide
  intro m
  induction m with
  | zero =>
    intro f k w hm hk e158 h hF
    have lt : k < nI (y % 16) := by
      rw [hk]
      exact (show ∀ j, j < 16 → nI (j + 0) - nI 1 < nI j by decide +kernel) _ (by omega)
    refine mz_go [17] 30 ?_
    simp only [mz_r0, ev_0, ev_1, ev_2, ev_3, ev_4, ev_5, ev_6, ev_7, ev_8, ev_9, ev_10, ev_11, ev_12, ev_13, ev_14, ev_15, ev_16, ev_17, ev_18, ev_19, ev_20, ev_21, ev_22, ev_23, ev_24, ev_25, ev_26, ev_27, ev_28, ev_29, ev_30, ev_31, ev_32, ev_33, ev_34, ev_35, ev_36, ev_37, ev_38, ev_39, ev_40, ev_41, ev_42, ev_43, ev_44, ev_45, ev_46, ev_47, ev_48, ev_49, ev_50, ev_51, ev_52, ev_53, ev_54, ev_55, ev_56, ev_57, ev_58, ev_59, ev_60, ev_61, ev_62, ev_63, ev_64, ev_65, ev_66, ev_67, ev_68, ev_69, ev_70, ev_71, ev_72, ev_73, ev_74, ev_75, ev_76, ev_77, ev_78, ev_79, ev_80, ev_81, ev_82, ev_83, mk_lit, mk_fin, mk_cat, mk_fit, mk_nar, mk_fld, mk_cls, mk_ty, mk_isr, List.mem_cons, List.not_mem_nil, or_false, or_true, false_or, true_or, Nat.reduceEqDiff, Nat.reduceAdd, Nat.reduceSub, Nat.reduceLT, Nat.reduceLeDiff, ↓reduceIte, if_true, if_false, List.getElem?_cons_zero, List.getElem?_cons_succ, List.set_cons_zero, List.set_cons_succ, List.length_cons, List.length_nil, mz_s1, mz_s2, mz_cl, true_and, and_true, false_and, and_false, List.append_nil, mk_b0, mk_b1, mk_b2, mk_bn, Value.int.injEq, Option.toList_some, Option.toList_none, List.cons_append, List.nil_append, Classical.not_not, Option.some.injEq, reduceCtorEq, ne_eq, not_true_eq_false, not_false_eq_true, false_implies, true_implies, mz_rl d_Model_punches_17, mz_rl d_Model_punches_19, mz_rl d_Model_punches_20, mz_rl d_Model_punches_22, mz_rl d_Model_punches_23, mz_rl d_Model_punches_26, mz_rl d_Model_punches_28, mz_rl d_Model_punches_30, mz_rl d_Model_punches_33, mz_rl d_Model_punches_34, mz_rl d_Model_punches_35, mz_rl d_Model_punches_36, mz_rl d_Model_punches_38, mz_rl d_Model_punches_40, mz_rl d_Model_punches_43, mz_rl d_Model_punches_44, mz_rl d_Model_punches_46, mz_rl d_Model_punches_48, mz_rl d_Model_punches_51, mz_rl d_Model_punches_52, mz_rl d_Model_punches_53, mz_rl d_Model_punches_55, mz_rl d_Model_punches_79, mz_rl d_Model_punches_80, mz_rl d_Model_punches_82, mz_rl d_Model_punches_84, mz_rl d_Model_punches_87, mz_rl d_Model_punches_88, mz_rl d_Model_punches_91, mz_rl d_Model_punches_93, mz_rl d_Model_punches_94, mz_rl d_Model_punches_95, mz_rl d_Model_punches_97, mz_rl d_Model_punches_98, mz_rl d_Model_punches_100, mz_rl d_Model_punches_101, mz_rl d_Model_punches_102, mz_rl d_Model_punches_105, mz_rl d_Model_punches_108, mz_rl d_Model_punches_110, j_Model_punches_23, j_Model_punches_48, j_Model_punches_84, j_Model_punches_105, nF_11, mk_ne16, pk_rem (show y < 2 ^ 31 by omega) (show 0 < 16 by decide) (show 16 < 2 ^ 31 by decide), eq_true lt]
    exact ⟨rfl, rfl, h, hF⟩
  | succ m ih =>
    intro f k w hm hk e158 h hF
    have hK := h.1.2.1
    have hk' : k = nI (y % 16 + m) := by rw [hk]; exact pk_sub (by omega)
    subst hk'
    have lt : ¬ nI (y % 16 + m) < nI (y % 16) := by rw [nI_ltI (show y % 16 + m < 2 ^ 31 by omega) (show y % 16 < 2 ^ 31 by omega)]; omega
    obtain ⟨a0, ha0⟩ : ∃ a0, a0 = r / 10 ^ (y / 16 + 1 - (m + 1)) := ⟨_, rfl⟩
    have ha1 : a0 < 2 ^ 62 := by rw [ha0]; exact Nat.lt_of_le_of_lt (Nat.div_le_self _ _) hr
    have ha2 : a0 / 10 = r / 10 ^ (y / 16 + 1 - m) := by
      rw [ha0, Nat.div_div_eq_div_mul, ← Nat.pow_succ]
      congr 2; omega
    have hsn : nI (48 + a0 % 10) = nI (snN r y (y % 16 + m)) := by
      unfold snN
      rw [ha0, show y % 16 + (y / 16 + 1) - 1 - (y % 16 + m) = y / 16 + 1 - (m + 1) by omega]
    have hsg9 := snN_sg r y (y % 16 + m)
    have hs91 := sg_lt hsg9
    rw [← ha0]
    have erd : ∀ sE : Nat → Nat → Nat, sE = (if z = true then va_up sD x (pmN (sD x) r y (y % 16 + (m + 1))) else sD) → sE x (y % 16 + m) = sD x (y % 16 + m) := by
      intro sE hsE
      rw [hsE]
      cases z
      · rfl
      · rw [if_pos rfl, va_up_s]
        unfold pmN
        rw [if_neg (by omega)]
    obtain ⟨sE, hsE⟩ : ∃ sE, sE = (if z = true then va_up sD x (pmN (sD x) r y (y % 16 + (m + 1))) else sD) := ⟨_, rfl⟩
    have hat := erd sE hsE
    have hsx : sg (sD x (y % 16 + m)) := by rw [← hat]; exact MP_sg (by rw [hsE]; exact h) hx (by omega)
    have hsl := sg_lt hsx
    -- the flag
    have efl : ctB (sD x) r y (y % 16 + m) (y / 16 + 1 - m) = (decide (sD x (y % 16 + m) = 32 ∨ sD x (y % 16 + m) = snN r y (y % 16 + m)) && ctB (sD x) r y (y % 16 + (m + 1)) (y / 16 + 1 - (m + 1))) := by
      obtain ⟨j, hj⟩ : ∃ j, y / 16 + 1 - m = j + 1 := ⟨y / 16 - m, by omega⟩
      rw [hj, show y / 16 + 1 - (m + 1) = j by omega, show y % 16 + (m + 1) = y % 16 + m + 1 by omega]
      have e9 : ctB (sD x) r y (y % 16 + m) (j + 1) = if sD x (y % 16 + m) = 32 ∨ sD x (y % 16 + m) = snN r y (y % 16 + m) then ctB (sD x) r y (y % 16 + m + 1) j else false := rfl
      rw [e9]
      by_cases q : sD x (y % 16 + m) = 32 ∨ sD x (y % 16 + m) = snN r y (y % 16 + m)
      · rw [if_pos q, decide_eq_true q, Bool.true_and]
      · rw [if_neg q, decide_eq_false q]; rfl
    -- from 80 on
    have key : ∀ (o8 : Value), mz_X G mk_P 11 false b_Model_punches 11 (some .boolean) (r_Model_punches 0 0) (puP f0 n K ln x y r S W cD sD z) (fun _ _ _ => False) 80 [some (.ref 158), some (.int (nI x)), some (.int (nI y)), some (.long L), none, some (.int (mk_b (z = true))), some (.long (lN (a0 / 10))), none, some o8, some (.int (nI (y % 16 + m))), some (.int (nI (48 + a0 % 10)))] [.int (mk_b (ctB (sD x) r y (y % 16 + m) (y / 16 + 1 - m) = true))] 0 0 n f := by
      intro o8
      rw [ha2]
      obtain ⟨g, e159, hsg⟩ := h.2.2.2.1
      cases z
      · refine mz_go [17] 30 ?_
        simp only [mz_r0, ev_0, ev_1, ev_2, ev_3, ev_4, ev_5, ev_6, ev_7, ev_8, ev_9, ev_10, ev_11, ev_12, ev_13, ev_14, ev_15, ev_16, ev_17, ev_18, ev_19, ev_20, ev_21, ev_22, ev_23, ev_24, ev_25, ev_26, ev_27, ev_28, ev_29, ev_30, ev_31, ev_32, ev_33, ev_34, ev_35, ev_36, ev_37, ev_38, ev_39, ev_40, ev_41, ev_42, ev_43, ev_44, ev_45, ev_46, ev_47, ev_48, ev_49, ev_50, ev_51, ev_52, ev_53, ev_54, ev_55, ev_56, ev_57, ev_58, ev_59, ev_60, ev_61, ev_62, ev_63, ev_64, ev_65, ev_66, ev_67, ev_68, ev_69, ev_70, ev_71, ev_72, ev_73, ev_74, ev_75, ev_76, ev_77, ev_78, ev_79, ev_80, ev_81, ev_82, ev_83, mk_lit, mk_fin, mk_cat, mk_fit, mk_nar, mk_fld, mk_cls, mk_ty, mk_isr, List.mem_cons, List.not_mem_nil, or_false, or_true, false_or, true_or, Nat.reduceEqDiff, Nat.reduceAdd, Nat.reduceSub, Nat.reduceLT, Nat.reduceLeDiff, ↓reduceIte, if_true, if_false, List.getElem?_cons_zero, List.getElem?_cons_succ, List.set_cons_zero, List.set_cons_succ, List.length_cons, List.length_nil, mz_s1, mz_s2, mz_cl, true_and, and_true, false_and, and_false, List.append_nil, mk_b0, mk_b1, mk_b2, mk_bn, Value.int.injEq, Option.toList_some, Option.toList_none, List.cons_append, List.nil_append, Classical.not_not, Option.some.injEq, reduceCtorEq, ne_eq, not_true_eq_false, not_false_eq_true, false_implies, true_implies, mz_rl d_Model_punches_80, mz_rl d_Model_punches_82, mz_rl d_Model_punches_84, mz_rl d_Model_punches_87, mz_rl d_Model_punches_88, mz_rl d_Model_punches_91, mz_rl d_Model_punches_93, mz_rl d_Model_punches_94, mz_rl d_Model_punches_95, mz_rl d_Model_punches_97, mz_rl d_Model_punches_98, mz_rl d_Model_punches_100, mz_rl d_Model_punches_101, mz_rl d_Model_punches_102, mz_rl d_Model_punches_105, j_Model_punches_84, j_Model_punches_105, nF_11, show (false = true) = False from by simp]
        exact ih f _ _ (by omega) (m1s _) e158 h hF
      · refine mz_go [17] 30 ?_
        rw [hsn]
        simp only [mz_r0, ev_0, ev_1, ev_2, ev_3, ev_4, ev_5, ev_6, ev_7, ev_8, ev_9, ev_10, ev_11, ev_12, ev_13, ev_14, ev_15, ev_16, ev_17, ev_18, ev_19, ev_20, ev_21, ev_22, ev_23, ev_24, ev_25, ev_26, ev_27, ev_28, ev_29, ev_30, ev_31, ev_32, ev_33, ev_34, ev_35, ev_36, ev_37, ev_38, ev_39, ev_40, ev_41, ev_42, ev_43, ev_44, ev_45, ev_46, ev_47, ev_48, ev_49, ev_50, ev_51, ev_52, ev_53, ev_54, ev_55, ev_56, ev_57, ev_58, ev_59, ev_60, ev_61, ev_62, ev_63, ev_64, ev_65, ev_66, ev_67, ev_68, ev_69, ev_70, ev_71, ev_72, ev_73, ev_74, ev_75, ev_76, ev_77, ev_78, ev_79, ev_80, ev_81, ev_82, ev_83, mk_lit, mk_fin, mk_cat, mk_fit, mk_nar, mk_fld, mk_cls, mk_ty, mk_isr, List.mem_cons, List.not_mem_nil, or_false, or_true, false_or, true_or, Nat.reduceEqDiff, Nat.reduceAdd, Nat.reduceSub, Nat.reduceLT, Nat.reduceLeDiff, ↓reduceIte, if_true, if_false, List.getElem?_cons_zero, List.getElem?_cons_succ, List.set_cons_zero, List.set_cons_succ, List.length_cons, List.length_nil, mz_s1, mz_s2, mz_cl, true_and, and_true, false_and, and_false, List.append_nil, mk_b0, mk_b1, mk_b2, mk_bn, Value.int.injEq, Option.toList_some, Option.toList_none, List.cons_append, List.nil_append, Classical.not_not, Option.some.injEq, reduceCtorEq, ne_eq, not_true_eq_false, not_false_eq_true, false_implies, true_implies, mz_rl d_Model_punches_80, mz_rl d_Model_punches_82, mz_rl d_Model_punches_84, mz_rl d_Model_punches_87, mz_rl d_Model_punches_88, mz_rl d_Model_punches_91, mz_rl d_Model_punches_93, mz_rl d_Model_punches_94, mz_rl d_Model_punches_95, mz_rl d_Model_punches_97, mz_rl d_Model_punches_98, mz_rl d_Model_punches_100, mz_rl d_Model_punches_101, mz_rl d_Model_punches_102, mz_rl d_Model_punches_105, j_Model_punches_84, j_Model_punches_105, nF_11, show (true = true) = True from by simp, e158, e159, mo, pk_mul, nI_add, vp_in_nI (show 16 * x + (y % 16 + m) < 3200 by omega) (show 3200 < 2 ^ 31 by decide), nI_clamp (show 16 * x + (y % 16 + m) < 2 ^ 31 by omega), n2bn _ (show snN r y (y % 16 + m) < 128 by omega), n2b _ (show snN r y (y % 16 + m) < 128 by omega)]
        refine ih _ _ _ (by omega) (m1s _) ((mz_u_n (by decide)).trans e158) ?_ (fun q hq => by rw [mz_u_n hq]; exact hF q hq)
        have := MP_put h e159 hx (show y % 16 + m < 16 by omega) hsg9
        rw [if_pos rfl, va_uu, va_up_s, show y % 16 + (m + 1) = y % 16 + m + 1 by omega, pmN_up _ (by omega)] at this
        rw [if_pos rfl]
        exact this
    have e1 : lN a0 - lN a0 / lN 10 * lN 10 = lN (a0 % 10) := pk_lRem (by omega) (by decide) (by decide)
    have e2 : lN a0 / lN 10 = lN (a0 / 10) := pk_lDiv (by omega) (by decide) (by decide)
    rw [e2] at e1
    cases hfl : ctB (sD x) r y (y % 16 + (m + 1)) (y / 16 + 1 - (m + 1)) with
    | false =>
      rw [hfl, Bool.and_false] at efl
      rw [efl] at key
      refine mz_go [80] 40 ?_
      simp only [mz_r0, ev_0, ev_1, ev_2, ev_3, ev_4, ev_5, ev_6, ev_7, ev_8, ev_9, ev_10, ev_11, ev_12, ev_13, ev_14, ev_15, ev_16, ev_17, ev_18, ev_19, ev_20, ev_21, ev_22, ev_23, ev_24, ev_25, ev_26, ev_27, ev_28, ev_29, ev_30, ev_31, ev_32, ev_33, ev_34, ev_35, ev_36, ev_37, ev_38, ev_39, ev_40, ev_41, ev_42, ev_43, ev_44, ev_45, ev_46, ev_47, ev_48, ev_49, ev_50, ev_51, ev_52, ev_53, ev_54, ev_55, ev_56, ev_57, ev_58, ev_59, ev_60, ev_61, ev_62, ev_63, ev_64, ev_65, ev_66, ev_67, ev_68, ev_69, ev_70, ev_71, ev_72, ev_73, ev_74, ev_75, ev_76, ev_77, ev_78, ev_79, ev_80, ev_81, ev_82, ev_83, mk_lit, mk_fin, mk_cat, mk_fit, mk_nar, mk_fld, mk_cls, mk_ty, mk_isr, List.mem_cons, List.not_mem_nil, or_false, or_true, false_or, true_or, Nat.reduceEqDiff, Nat.reduceAdd, Nat.reduceSub, Nat.reduceLT, Nat.reduceLeDiff, ↓reduceIte, if_true, if_false, List.getElem?_cons_zero, List.getElem?_cons_succ, List.set_cons_zero, List.set_cons_succ, List.length_cons, List.length_nil, mz_s1, mz_s2, mz_cl, true_and, and_true, false_and, and_false, List.append_nil, mk_b0, mk_b1, mk_b2, mk_bn, Value.int.injEq, Option.toList_some, Option.toList_none, List.cons_append, List.nil_append, Classical.not_not, Option.some.injEq, reduceCtorEq, ne_eq, not_true_eq_false, not_false_eq_true, false_implies, true_implies, mz_rl d_Model_punches_17, mz_rl d_Model_punches_19, mz_rl d_Model_punches_20, mz_rl d_Model_punches_22, mz_rl d_Model_punches_23, mz_rl d_Model_punches_26, mz_rl d_Model_punches_28, mz_rl d_Model_punches_30, mz_rl d_Model_punches_33, mz_rl d_Model_punches_34, mz_rl d_Model_punches_35, mz_rl d_Model_punches_36, mz_rl d_Model_punches_38, mz_rl d_Model_punches_40, mz_rl d_Model_punches_43, mz_rl d_Model_punches_44, mz_rl d_Model_punches_46, mz_rl d_Model_punches_48, mz_rl d_Model_punches_51, mz_rl d_Model_punches_52, mz_rl d_Model_punches_53, mz_rl d_Model_punches_55, mz_rl d_Model_punches_79, mz_rl d_Model_punches_108, mz_rl d_Model_punches_110, j_Model_punches_23, j_Model_punches_48, nF_11, mk_ne16, pk_rem (show y < 2 ^ 31 by omega) (show 0 < 16 by decide) (show 16 < 2 ^ 31 by decide), eq_false lt, l10, z10, mk_con, show (false = true) = False from by simp, e2, e1, lN_i, nI_add]
      have k9 := key
      simp only [show (false = true) = False from by simp] at k9
      exact k9 _
    | true =>
      rw [hfl, Bool.and_true] at efl
      refine mz_go [55] 40 ?_
      simp only [mz_r0, ev_0, ev_1, ev_2, ev_3, ev_4, ev_5, ev_6, ev_7, ev_8, ev_9, ev_10, ev_11, ev_12, ev_13, ev_14, ev_15, ev_16, ev_17, ev_18, ev_19, ev_20, ev_21, ev_22, ev_23, ev_24, ev_25, ev_26, ev_27, ev_28, ev_29, ev_30, ev_31, ev_32, ev_33, ev_34, ev_35, ev_36, ev_37, ev_38, ev_39, ev_40, ev_41, ev_42, ev_43, ev_44, ev_45, ev_46, ev_47, ev_48, ev_49, ev_50, ev_51, ev_52, ev_53, ev_54, ev_55, ev_56, ev_57, ev_58, ev_59, ev_60, ev_61, ev_62, ev_63, ev_64, ev_65, ev_66, ev_67, ev_68, ev_69, ev_70, ev_71, ev_72, ev_73, ev_74, ev_75, ev_76, ev_77, ev_78, ev_79, ev_80, ev_81, ev_82, ev_83, mk_lit, mk_fin, mk_cat, mk_fit, mk_nar, mk_fld, mk_cls, mk_ty, mk_isr, List.mem_cons, List.not_mem_nil, or_false, or_true, false_or, true_or, Nat.reduceEqDiff, Nat.reduceAdd, Nat.reduceSub, Nat.reduceLT, Nat.reduceLeDiff, ↓reduceIte, if_true, if_false, List.getElem?_cons_zero, List.getElem?_cons_succ, List.set_cons_zero, List.set_cons_succ, List.length_cons, List.length_nil, mz_s1, mz_s2, mz_cl, true_and, and_true, false_and, and_false, List.append_nil, mk_b0, mk_b1, mk_b2, mk_bn, Value.int.injEq, Option.toList_some, Option.toList_none, List.cons_append, List.nil_append, Classical.not_not, Option.some.injEq, reduceCtorEq, ne_eq, not_true_eq_false, not_false_eq_true, false_implies, true_implies, mz_rl d_Model_punches_17, mz_rl d_Model_punches_19, mz_rl d_Model_punches_20, mz_rl d_Model_punches_22, mz_rl d_Model_punches_23, mz_rl d_Model_punches_26, mz_rl d_Model_punches_28, mz_rl d_Model_punches_30, mz_rl d_Model_punches_33, mz_rl d_Model_punches_34, mz_rl d_Model_punches_35, mz_rl d_Model_punches_36, mz_rl d_Model_punches_38, mz_rl d_Model_punches_40, mz_rl d_Model_punches_43, mz_rl d_Model_punches_44, mz_rl d_Model_punches_46, mz_rl d_Model_punches_48, mz_rl d_Model_punches_51, mz_rl d_Model_punches_52, mz_rl d_Model_punches_53, mz_rl d_Model_punches_79, mz_rl d_Model_punches_80, mz_rl d_Model_punches_82, mz_rl d_Model_punches_84, mz_rl d_Model_punches_87, mz_rl d_Model_punches_88, mz_rl d_Model_punches_91, mz_rl d_Model_punches_93, mz_rl d_Model_punches_94, mz_rl d_Model_punches_95, mz_rl d_Model_punches_97, mz_rl d_Model_punches_98, mz_rl d_Model_punches_100, mz_rl d_Model_punches_101, mz_rl d_Model_punches_102, mz_rl d_Model_punches_105, mz_rl d_Model_punches_108, mz_rl d_Model_punches_110, j_Model_punches_23, j_Model_punches_48, j_Model_punches_84, j_Model_punches_105, nF_11, mk_ne16, pk_rem (show y < 2 ^ 31 by omega) (show 0 < 16 by decide) (show 16 < 2 ^ 31 by decide), eq_false lt, l10, z10, mk_con, show (true = true) = True from by simp, e2, e1, lN_i, nI_add]
      refine mz_callV (by simp only [d_Model_punches_55, Nat.reduceAdd]) g_11_91 rfl (fun _ _ h => h) (c_Model_atX G n _ h hx (show y % 16 + m < 16 by omega)) e158 rfl rfl (by decide) (Nat.le_of_ble_eq_true rfl) rfl ?_; intro v_ n_ f_ h_; obtain ⟨rfl, hn_, hf_⟩ := h_; replace hn_ := hn_.symm; replace hf_ := hf_.symm; subst hn_; subst hf_
      rw [← hsE, hat]
      by_cases h32 : sD x (y % 16 + m) = 32
      · rw [decide_eq_true (Or.inl h32)] at efl
        rw [efl] at key
        refine mz_go [80] 40 ?_
        simp only [mz_r0, ev_0, ev_1, ev_2, ev_3, ev_4, ev_5, ev_6, ev_7, ev_8, ev_9, ev_10, ev_11, ev_12, ev_13, ev_14, ev_15, ev_16, ev_17, ev_18, ev_19, ev_20, ev_21, ev_22, ev_23, ev_24, ev_25, ev_26, ev_27, ev_28, ev_29, ev_30, ev_31, ev_32, ev_33, ev_34, ev_35, ev_36, ev_37, ev_38, ev_39, ev_40, ev_41, ev_42, ev_43, ev_44, ev_45, ev_46, ev_47, ev_48, ev_49, ev_50, ev_51, ev_52, ev_53, ev_54, ev_55, ev_56, ev_57, ev_58, ev_59, ev_60, ev_61, ev_62, ev_63, ev_64, ev_65, ev_66, ev_67, ev_68, ev_69, ev_70, ev_71, ev_72, ev_73, ev_74, ev_75, ev_76, ev_77, ev_78, ev_79, ev_80, ev_81, ev_82, ev_83, mk_lit, mk_fin, mk_cat, mk_fit, mk_nar, mk_fld, mk_cls, mk_ty, mk_isr, List.mem_cons, List.not_mem_nil, or_false, or_true, false_or, true_or, Nat.reduceEqDiff, Nat.reduceAdd, Nat.reduceSub, Nat.reduceLT, Nat.reduceLeDiff, ↓reduceIte, if_true, if_false, List.getElem?_cons_zero, List.getElem?_cons_succ, List.set_cons_zero, List.set_cons_succ, List.length_cons, List.length_nil, mz_s1, mz_s2, mz_cl, true_and, and_true, false_and, and_false, List.append_nil, mk_b0, mk_b1, mk_b2, mk_bn, Value.int.injEq, Option.toList_some, Option.toList_none, List.cons_append, List.nil_append, Classical.not_not, Option.some.injEq, reduceCtorEq, ne_eq, not_true_eq_false, not_false_eq_true, false_implies, true_implies, mz_rl d_Model_punches_58, mz_rl d_Model_punches_60, mz_rl d_Model_punches_63, mz_rl d_Model_punches_64, mz_rl d_Model_punches_65, mz_rl d_Model_punches_67, mz_rl d_Model_punches_75, mz_rl d_Model_punches_76, j_Model_punches_60, j_Model_punches_76, nF_11, h32]
        have k9 := key
        simp only [show (true = true) = True from by simp, mk_b_t] at k9
        exact k9 _
      · have h32' : ¬ nI (sD x (y % 16 + m)) = nI 32 := fun q => h32 ((nI_eq (by omega) (by decide)).mp q)
        refine mz_go [67] 40 ?_
        simp only [mz_r0, ev_0, ev_1, ev_2, ev_3, ev_4, ev_5, ev_6, ev_7, ev_8, ev_9, ev_10, ev_11, ev_12, ev_13, ev_14, ev_15, ev_16, ev_17, ev_18, ev_19, ev_20, ev_21, ev_22, ev_23, ev_24, ev_25, ev_26, ev_27, ev_28, ev_29, ev_30, ev_31, ev_32, ev_33, ev_34, ev_35, ev_36, ev_37, ev_38, ev_39, ev_40, ev_41, ev_42, ev_43, ev_44, ev_45, ev_46, ev_47, ev_48, ev_49, ev_50, ev_51, ev_52, ev_53, ev_54, ev_55, ev_56, ev_57, ev_58, ev_59, ev_60, ev_61, ev_62, ev_63, ev_64, ev_65, ev_66, ev_67, ev_68, ev_69, ev_70, ev_71, ev_72, ev_73, ev_74, ev_75, ev_76, ev_77, ev_78, ev_79, ev_80, ev_81, ev_82, ev_83, mk_lit, mk_fin, mk_cat, mk_fit, mk_nar, mk_fld, mk_cls, mk_ty, mk_isr, List.mem_cons, List.not_mem_nil, or_false, or_true, false_or, true_or, Nat.reduceEqDiff, Nat.reduceAdd, Nat.reduceSub, Nat.reduceLT, Nat.reduceLeDiff, ↓reduceIte, if_true, if_false, List.getElem?_cons_zero, List.getElem?_cons_succ, List.set_cons_zero, List.set_cons_succ, List.length_cons, List.length_nil, mz_s1, mz_s2, mz_cl, true_and, and_true, false_and, and_false, List.append_nil, mk_b0, mk_b1, mk_b2, mk_bn, Value.int.injEq, Option.toList_some, Option.toList_none, List.cons_append, List.nil_append, Classical.not_not, Option.some.injEq, reduceCtorEq, ne_eq, not_true_eq_false, not_false_eq_true, false_implies, true_implies, mz_rl d_Model_punches_17, mz_rl d_Model_punches_19, mz_rl d_Model_punches_20, mz_rl d_Model_punches_22, mz_rl d_Model_punches_23, mz_rl d_Model_punches_26, mz_rl d_Model_punches_28, mz_rl d_Model_punches_30, mz_rl d_Model_punches_33, mz_rl d_Model_punches_34, mz_rl d_Model_punches_35, mz_rl d_Model_punches_36, mz_rl d_Model_punches_38, mz_rl d_Model_punches_40, mz_rl d_Model_punches_43, mz_rl d_Model_punches_44, mz_rl d_Model_punches_46, mz_rl d_Model_punches_48, mz_rl d_Model_punches_51, mz_rl d_Model_punches_52, mz_rl d_Model_punches_53, mz_rl d_Model_punches_55, mz_rl d_Model_punches_58, mz_rl d_Model_punches_60, mz_rl d_Model_punches_63, mz_rl d_Model_punches_64, mz_rl d_Model_punches_65, mz_rl d_Model_punches_75, mz_rl d_Model_punches_76, mz_rl d_Model_punches_79, mz_rl d_Model_punches_80, mz_rl d_Model_punches_82, mz_rl d_Model_punches_84, mz_rl d_Model_punches_87, mz_rl d_Model_punches_88, mz_rl d_Model_punches_91, mz_rl d_Model_punches_93, mz_rl d_Model_punches_94, mz_rl d_Model_punches_95, mz_rl d_Model_punches_97, mz_rl d_Model_punches_98, mz_rl d_Model_punches_100, mz_rl d_Model_punches_101, mz_rl d_Model_punches_102, mz_rl d_Model_punches_105, mz_rl d_Model_punches_108, mz_rl d_Model_punches_110, j_Model_punches_23, j_Model_punches_48, j_Model_punches_60, j_Model_punches_76, j_Model_punches_84, j_Model_punches_105, nF_11, eq_false h32']
        refine mz_callV (by simp only [d_Model_punches_67, Nat.reduceAdd]) g_11_91 rfl (fun _ _ h => h) (c_Model_atX G n _ h hx (show y % 16 + m < 16 by omega)) e158 rfl rfl (by decide) (Nat.le_of_ble_eq_true rfl) rfl ?_; intro v_ n_ f_ h_; obtain ⟨rfl, hn_, hf_⟩ := h_; replace hn_ := hn_.symm; replace hf_ := hf_.symm; subst hn_; subst hf_
        rw [← hsE, hat]
        by_cases h33 : sD x (y % 16 + m) = snN r y (y % 16 + m)
        · rw [decide_eq_true (Or.inr h33)] at efl
          rw [efl] at key
          refine mz_go [80] 40 ?_
          simp only [mz_r0, ev_0, ev_1, ev_2, ev_3, ev_4, ev_5, ev_6, ev_7, ev_8, ev_9, ev_10, ev_11, ev_12, ev_13, ev_14, ev_15, ev_16, ev_17, ev_18, ev_19, ev_20, ev_21, ev_22, ev_23, ev_24, ev_25, ev_26, ev_27, ev_28, ev_29, ev_30, ev_31, ev_32, ev_33, ev_34, ev_35, ev_36, ev_37, ev_38, ev_39, ev_40, ev_41, ev_42, ev_43, ev_44, ev_45, ev_46, ev_47, ev_48, ev_49, ev_50, ev_51, ev_52, ev_53, ev_54, ev_55, ev_56, ev_57, ev_58, ev_59, ev_60, ev_61, ev_62, ev_63, ev_64, ev_65, ev_66, ev_67, ev_68, ev_69, ev_70, ev_71, ev_72, ev_73, ev_74, ev_75, ev_76, ev_77, ev_78, ev_79, ev_80, ev_81, ev_82, ev_83, mk_lit, mk_fin, mk_cat, mk_fit, mk_nar, mk_fld, mk_cls, mk_ty, mk_isr, List.mem_cons, List.not_mem_nil, or_false, or_true, false_or, true_or, Nat.reduceEqDiff, Nat.reduceAdd, Nat.reduceSub, Nat.reduceLT, Nat.reduceLeDiff, ↓reduceIte, if_true, if_false, List.getElem?_cons_zero, List.getElem?_cons_succ, List.set_cons_zero, List.set_cons_succ, List.length_cons, List.length_nil, mz_s1, mz_s2, mz_cl, true_and, and_true, false_and, and_false, List.append_nil, mk_b0, mk_b1, mk_b2, mk_bn, Value.int.injEq, Option.toList_some, Option.toList_none, List.cons_append, List.nil_append, Classical.not_not, Option.some.injEq, reduceCtorEq, ne_eq, not_true_eq_false, not_false_eq_true, false_implies, true_implies, mz_rl d_Model_punches_70, mz_rl d_Model_punches_72, mz_rl d_Model_punches_75, mz_rl d_Model_punches_76, mz_rl d_Model_punches_79, j_Model_punches_72, j_Model_punches_76, nF_11, hsn, h33]
          have k9 := key
          rw [hsn] at k9
          simp only [show (true = true) = True from by simp, mk_b_t] at k9
          exact k9 _
        · rw [decide_eq_false (fun q => by rcases q with q | q; exact h32 q; exact h33 q)] at efl
          rw [efl] at key
          have h33' : ¬ nI (sD x (y % 16 + m)) = nI (snN r y (y % 16 + m)) := fun q => h33 ((nI_eq (by omega) (by omega)).mp q)
          refine mz_go [80] 40 ?_
          simp only [mz_r0, ev_0, ev_1, ev_2, ev_3, ev_4, ev_5, ev_6, ev_7, ev_8, ev_9, ev_10, ev_11, ev_12, ev_13, ev_14, ev_15, ev_16, ev_17, ev_18, ev_19, ev_20, ev_21, ev_22, ev_23, ev_24, ev_25, ev_26, ev_27, ev_28, ev_29, ev_30, ev_31, ev_32, ev_33, ev_34, ev_35, ev_36, ev_37, ev_38, ev_39, ev_40, ev_41, ev_42, ev_43, ev_44, ev_45, ev_46, ev_47, ev_48, ev_49, ev_50, ev_51, ev_52, ev_53, ev_54, ev_55, ev_56, ev_57, ev_58, ev_59, ev_60, ev_61, ev_62, ev_63, ev_64, ev_65, ev_66, ev_67, ev_68, ev_69, ev_70, ev_71, ev_72, ev_73, ev_74, ev_75, ev_76, ev_77, ev_78, ev_79, ev_80, ev_81, ev_82, ev_83, mk_lit, mk_fin, mk_cat, mk_fit, mk_nar, mk_fld, mk_cls, mk_ty, mk_isr, List.mem_cons, List.not_mem_nil, or_false, or_true, false_or, true_or, Nat.reduceEqDiff, Nat.reduceAdd, Nat.reduceSub, Nat.reduceLT, Nat.reduceLeDiff, ↓reduceIte, if_true, if_false, List.getElem?_cons_zero, List.getElem?_cons_succ, List.set_cons_zero, List.set_cons_succ, List.length_cons, List.length_nil, mz_s1, mz_s2, mz_cl, true_and, and_true, false_and, and_false, List.append_nil, mk_b0, mk_b1, mk_b2, mk_bn, Value.int.injEq, Option.toList_some, Option.toList_none, List.cons_append, List.nil_append, Classical.not_not, Option.some.injEq, reduceCtorEq, ne_eq, not_true_eq_false, not_false_eq_true, false_implies, true_implies, mz_rl d_Model_punches_70, mz_rl d_Model_punches_72, mz_rl d_Model_punches_75, mz_rl d_Model_punches_76, mz_rl d_Model_punches_79, j_Model_punches_72, j_Model_punches_76, nF_11, hsn, eq_false h33']
          have k9 := key
          rw [hsn] at k9
          simp only [show (false = true) = False from by simp] at k9
          exact k9 _
theorem c_Model_punches {cD sD : Nat → Nat → Nat} (G : mz_G) (n : Nat) (f : mz_H) {K ln x y r : Nat} {S W : Nat → Nat} (z : Bool) (h : MP f K ln S W cD sD) (hx : x < K) (hy : facOk y) (hr : r < 2 ^ 62) : mz_Ct G mk_P y_Model_punches b_Model_punches 11 (some .boolean) (r_Model_punches 0 0) [.ref 158, .int (nI x), .int (nI y), .long (lN r), .int (mk_b (z = true))] n f (puP f n K ln x y r S W cD sD z) := by
  obtain ⟨t, p, b, u, a, e158⟩ := h.1.1
  refine mk_Ct 11 false [some (.ref 158), some (.int (nI x)), some (.int (nI y)), some (.long (lN r)), none, some (.int (mk_b (z = true))), none, none, none, none, none] (by decide) rfl (by decide) (Nat.le_of_ble_eq_true rfl) rfl ?_
  have hy1 := hy.1
  refine mz_go [17] 30 ?_
  simp only [mz_r0, ev_0, ev_1, ev_2, ev_3, ev_4, ev_5, ev_6, ev_7, ev_8, ev_9, ev_10, ev_11, ev_12, ev_13, ev_14, ev_15, ev_16, ev_17, ev_18, ev_19, ev_20, ev_21, ev_22, ev_23, ev_24, ev_25, ev_26, ev_27, ev_28, ev_29, ev_30, ev_31, ev_32, ev_33, ev_34, ev_35, ev_36, ev_37, ev_38, ev_39, ev_40, ev_41, ev_42, ev_43, ev_44, ev_45, ev_46, ev_47, ev_48, ev_49, ev_50, ev_51, ev_52, ev_53, ev_54, ev_55, ev_56, ev_57, ev_58, ev_59, ev_60, ev_61, ev_62, ev_63, ev_64, ev_65, ev_66, ev_67, ev_68, ev_69, ev_70, ev_71, ev_72, ev_73, ev_74, ev_75, ev_76, ev_77, ev_78, ev_79, ev_80, ev_81, ev_82, ev_83, mk_lit, mk_fin, mk_cat, mk_fit, mk_nar, mk_fld, mk_cls, mk_ty, mk_isr, List.mem_cons, List.not_mem_nil, or_false, or_true, false_or, true_or, Nat.reduceEqDiff, Nat.reduceAdd, Nat.reduceSub, Nat.reduceLT, Nat.reduceLeDiff, ↓reduceIte, if_true, if_false, List.getElem?_cons_zero, List.getElem?_cons_succ, List.set_cons_zero, List.set_cons_succ, List.length_cons, List.length_nil, mz_s1, mz_s2, mz_cl, true_and, and_true, false_and, and_false, List.append_nil, mk_b0, mk_b1, mk_b2, mk_bn, Value.int.injEq, Option.toList_some, Option.toList_none, List.cons_append, List.nil_append, Classical.not_not, Option.some.injEq, reduceCtorEq, ne_eq, not_true_eq_false, not_false_eq_true, false_implies, true_implies, mz_rl d_Model_punches_0, mz_rl d_Model_punches_1, mz_rl d_Model_punches_3, mz_rl d_Model_punches_4, mz_rl d_Model_punches_6, mz_rl d_Model_punches_7, mz_rl d_Model_punches_9, mz_rl d_Model_punches_10, mz_rl d_Model_punches_11, mz_rl d_Model_punches_13, mz_rl d_Model_punches_14, mz_rl d_Model_punches_15, nF_11, mk_ne16, pk_rm, pk_div (show y < 2 ^ 31 by omega) (show 0 < 16 by decide) (show 16 < 2 ^ 31 by decide), nI_add]
  have hp : (if z = true then va_up sD x (pmN (sD x) r y (y % 16 + (y / 16 + 1))) else sD) = sD := by
    cases z
    · rfl
    · rw [if_pos rfl]
      have : pmN (sD x) r y (y % 16 + (y / 16 + 1)) = sD x := by funext j; unfold pmN; rw [if_neg (by omega)]
      rw [this, vu_id]
  have := l_Model_punches G n f (sD := sD) (L := lN r) z hx hy hr (y / 16 + 1) f (nI (y % 16 + y / 16)) none (Nat.le_refl _) (by
    rw [pk_sub (show 1 ≤ y % 16 + (y / 16 + 1) by omega)]; congr 1) e158 (by rw [hp]; exact h) (fun _ _ => rfl)
  rw [Nat.sub_self, Nat.pow_zero, Nat.div_one] at this
  exact this
/-! the calls that look, and the small ones -/
abbrev pubM (n : Nat) (f : mz_H) (K : Nat) (S : Nat → Nat) (cD sD : Nat → Nat → Nat) (v : Option Value) (n' : Nat) (f' : mz_H) : Prop := (∃ r, v = some (.int r)) ∧ n' = n ∧ MJ f' K S cD sD ∧ FrC f f'
theorem MI_t {cD sD : Nat → Nat → Nat} {f : mz_H} {K : Nat} {S : Nat → Nat} (h : MJ f K S cD sD) : ∃ ln W t p b u a, MP f K ln S W cD sD ∧ s8 S ≤ K ∧ f 158 = mo t K ln p b u a := by
  obtain ⟨ln, W, h, hs⟩ := h
  obtain ⟨t, p, b, u, a, e⟩ := h.1.1
  exact ⟨ln, W, t, p, b, u, a, h, hs, e⟩
/-- thrown is set -/
theorem MP_t {cD sD : Nat → Nat → Nat} {f : mz_H} {K ln : Nat} {S W : Nat → Nat} {p b u a : Int32} (h : MP f K ln S W cD sD) (t' : Int32) : MP (mz_u f 158 (mo t' K ln p b u a)) K ln S W cD sD := MP_mo h h.1.2.2 t' p b u a
theorem FrC_1 (f : mz_H) {k : Nat} (hk : 158 ≤ k ∧ k ≤ 163) (c : mz_C) : FrC f (mz_u f k c) := FrC_u (FrC_rf f) hk c
/-- the reference's cells, by what they hold -/
theorem MT_b {cD sD : Nat → Nat → Nat} {f : mz_H} {K : Nat} {S : Nat → Nat} {m : mS} {w : tT} (h : MJ f K S cD sD) (hT : MT f m w) : ∃ W t, MP f K w.2.1 S W cD sD ∧ s8 S ≤ K ∧ f 158 = mo t K w.2.1 m.2.2.1 m.2.2.2 m.1 m.2.1 := by
  obtain ⟨ln, W, t, p, b, u, a, h, hs, e⟩ := MI_t h
  obtain ⟨⟨t2, k2, e2⟩, -, -, hl⟩ := hT
  rw [e] at e2
  obtain ⟨q1, q2, q3, q4, q5⟩ := mo_inj (t := t) (k := nI K) (l := nI ln) e2
  have hln := h.1.2.2
  have : ln = w.2.1 := (nI_eq (by omega) (by omega)).mp q1
  subst this
  exact ⟨W, t, h, hs, by rw [e, q2, q3, q4, q5]⟩
theorem thq_1 {f : mz_H} {K ln : Nat} {t p b u a : Int32} (e : f 158 = mo t K ln p b u a) (k : Int32) : thq f (mz_u f 158 (mo k K ln p b u a)) k no_U := ⟨t, nI K, nI ln, (u, a, p, b), nI K, e, mz_u_s _ _ _⟩
theorem thq_d {f F : mz_H} {K ln : Nat} {t p b u a k k2 : Int32} {φ : mS → mS} (e : f 158 = mo t K ln p b u a) (e2 : F 158 = moI k k2 (nI ln) (φ (u, a, p, b)).2.2.1 (φ (u, a, p, b)).2.2.2 (φ (u, a, p, b)).1 (φ (u, a, p, b)).2.1) : thq f F k φ := ⟨t, nI K, nI ln, (u, a, p, b), k2, e, e2⟩
theorem thq_s {f0 f F : mz_H} {k : Int32} {φ : mS → mS} (h : thq f0 f k φ) (e : F 158 = f 158) : thq f0 F k φ := by
  obtain ⟨t0, k0, l, m, k1, e0, e1⟩ := h
  exact ⟨t0, k0, l, m, k1, e0, e.trans e1⟩
theorem thq_m {f0 f F : mz_H} {K ln : Nat} {t p b u a k k' k2 : Int32} {φ : mS → mS} (h : thq f0 f k no_U) (e : f 158 = mo t K ln p b u a) (e2 : F 158 = moI k' k2 (nI ln) (φ (u, a, p, b)).2.2.1 (φ (u, a, p, b)).2.2.2 (φ (u, a, p, b)).1 (φ (u, a, p, b)).2.1) : thq f0 F k' φ := by
  obtain ⟨t0, k0, l, ⟨m1, m2, m3, m4⟩, k1, e0, e1⟩ := h
  rw [e] at e1
  obtain ⟨q1, q2, q3, q4, q5⟩ := mo_inj (t := t) (k := nI K) (l := nI ln) e1
  have q2' : p = m3 := q2
  have q3' : b = m4 := q3
  have q4' : u = m1 := q4
  have q5' : a = m2 := q5
  rw [q1, q2', q3', q4', q5'] at e2
  exact ⟨t0, k0, l, (m1, m2, m3, m4), k2, e0, e2⟩
theorem thq_e {f0 F : mz_H} {ln : Nat} {p br u a k k2 : Int32} {φ : mS → mS} (h : ∃ t k, f0 158 = moI t k (nI ln) p br u a) (e2 : F 158 = moI k k2 (nI ln) (φ (u, a, p, br)).2.2.1 (φ (u, a, p, br)).2.2.2 (φ (u, a, p, br)).1 (φ (u, a, p, br)).2.1) : thq f0 F k φ := by
  obtain ⟨t, k0, e⟩ := h
  exact ⟨t, k0, nI ln, (u, a, p, br), k2, e, e2⟩
/-- a call that changes the boards alone -/
def FrE (f F : mz_H) : Prop := (∀ q, (q < 158 ∨ 167 < q) → F q = f q) ∧ thq f F (nI 0) no_U
theorem FrE_u {f g : mz_H} (h : FrE f g) {k : Nat} (hk : 164 ≤ k ∧ k ≤ 167) (c : mz_C) : FrE f (mz_u g k c) := ⟨fun q hq => (mz_u_n (by omega)).trans (h.1 q hq), thq_s h.2 (mz_u_n (by omega))⟩
theorem FrE_1 {f : mz_H} {K ln : Nat} {t p b u a : Int32} (e : f 158 = mo t K ln p b u a) : FrE f (mz_u f 158 (mo (nI 0) K ln p b u a)) := ⟨fun q hq => mz_u_n (by omega), thq_1 e _⟩
theorem addz (p : Int32) : p + nI 0 = p := Int32.add_zero p
def teM (n : Nat) (f : mz_H) (K : Nat) (S : Nat → Nat) (cD sD : Nat → Nat → Nat) (m : mS) (w : tT) (v : Option Value) (n' : Nat) (f' : mz_H) : Prop := v = some (.int (nI w.2.1)) ∧ n' = n ∧ MJ f' K S cD sD ∧ FrC f f' ∧ MT f' m (w.1, 0, w.2.2)
theorem c_Model_tear {cD sD : Nat → Nat → Nat} {K : Nat} {S : Nat → Nat} {m : mS} {w : tT} (G : mz_G) (n : Nat) (f : mz_H) (h : MJ f K S cD sD) (hT : MT f m w) : mz_Ct G mk_P y_Model_tear b_Model_tear 2 (some .int) (r_Model_tear 0 0) [.ref 158] n f (teM n f K S cD sD m w) := by
  obtain ⟨W, t, h, hs, e158⟩ := MT_b h hT
  obtain ⟨-, ⟨g, e8, h8⟩, ⟨g2, e9, h9⟩, hl⟩ := hT
  refine mk_Ct 11 false [some (.ref 158), none] (by decide) rfl (by decide) (Nat.le_of_ble_eq_true rfl) rfl ?_
  refine mz_go [] 30 ?_
  simp only [mz_r0, ev_0, ev_1, ev_2, ev_3, ev_4, ev_5, ev_6, ev_7, ev_8, ev_9, ev_10, ev_11, ev_12, ev_13, ev_14, ev_15, ev_16, ev_17, ev_18, ev_19, ev_20, ev_21, ev_22, ev_23, ev_24, ev_25, ev_26, ev_27, ev_28, ev_29, ev_30, ev_31, ev_32, ev_33, ev_34, ev_35, ev_36, ev_37, ev_38, ev_39, ev_40, ev_41, ev_42, ev_43, ev_44, ev_45, ev_46, ev_47, ev_48, ev_49, ev_50, ev_51, ev_52, ev_53, ev_54, ev_55, ev_56, ev_57, ev_58, ev_59, ev_60, ev_61, ev_62, ev_63, ev_64, ev_65, ev_66, ev_67, ev_68, ev_69, ev_70, ev_71, ev_72, ev_73, ev_74, ev_75, ev_76, ev_77, ev_78, ev_79, ev_80, ev_81, ev_82, ev_83, mk_lit, mk_fin, mk_cat, mk_fit, mk_nar, mk_fld, mk_cls, mk_ty, mk_isr, List.mem_cons, List.not_mem_nil, or_false, or_true, false_or, true_or, Nat.reduceEqDiff, Nat.reduceAdd, Nat.reduceSub, Nat.reduceLT, Nat.reduceLeDiff, ↓reduceIte, if_true, if_false, List.getElem?_cons_zero, List.getElem?_cons_succ, List.set_cons_zero, List.set_cons_succ, List.length_cons, List.length_nil, mz_s1, mz_s2, mz_cl, true_and, and_true, false_and, and_false, List.append_nil, mk_b0, mk_b1, mk_b2, mk_bn, Value.int.injEq, Option.toList_some, Option.toList_none, List.cons_append, List.nil_append, Classical.not_not, Option.some.injEq, reduceCtorEq, ne_eq, not_true_eq_false, not_false_eq_true, false_implies, true_implies, mz_rl d_Model_tear_0, mz_rl d_Model_tear_1, mz_rl d_Model_tear_2, mz_rl d_Model_tear_5, mz_rl d_Model_tear_6, mz_rl d_Model_tear_9, mz_rl d_Model_tear_10, mz_rl d_Model_tear_11, mz_rl d_Model_tear_12, mz_rl d_Model_tear_15, mz_rl d_Model_tear_16, nF_11, e158, mo, mz_u_s, mz_uu]
  exact ⟨rfl, rfl, ⟨0, W, MP_mo h (by omega) _ _ _ _ _, hs⟩, FrC_1 f (by decide) _, ⟨nI 0, nI K, mz_u_s _ _ _⟩, ⟨g, (mz_u_n (by decide)).trans e8, h8⟩, ⟨g2, (mz_u_n (by decide)).trans e9, fun i p hi _ => absurd hi (Nat.not_lt_zero _)⟩, Nat.zero_le _⟩
theorem ti_ne {x : Int32} {k : Nat} (hk : k < 2 ^ 31) (h : ¬ x = nI k) : x.toInt ≠ k := fun e => by
  obtain ⟨j, hj, rfl⟩ := mk_nat (x := x) (N := k + 1) (by omega) (by omega) (by omega)
  rw [mk_nti (by omega)] at e
  have : j = k := by omega
  subst this
  exact h rfl
def faM (n : Nat) (f : mz_H) (K : Nat) (S : Nat → Nat) (cD sD : Nat → Nat → Nat) (m : mS) (x : Int32) (v : Option Value) (n' : Nat) (f' : mz_H) : Prop := v = some (.int (ftV m x)) ∧ n' = n ∧ MJ f' K S cD sD ∧ FrC f f' ∧ thq f f' (nI 0) no_U
theorem c_Model_fault {cD sD : Nat → Nat → Nat} {K : Nat} {S : Nat → Nat} {m : mS} {w : tT} (G : mz_G) (n : Nat) (f : mz_H) (x : Int32) (h : MJ f K S cD sD) (hT : MT f m w) : mz_Ct G mk_P y_Model_fault b_Model_fault 2 (some .int) (r_Model_fault 0 0) [.ref 158, .int x] n f (faM n f K S cD sD m x) := by
  obtain ⟨W, t, h, hs, e158⟩ := MT_b h hT
  have fin : ∀ r, r = ftV m x → faM n f K S cD sD m x (some (.int r)) n (mz_u f 158 (mo (nI 0) K w.2.1 m.2.2.1 m.2.2.2 m.1 m.2.1)) := fun r e => ⟨by rw [e], rfl, ⟨w.2.1, W, MP_t h _, hs⟩, FrC_1 f (by decide) _, thq_1 e158 _⟩
  refine mk_Ct 11 false [some (.ref 158), some (.int x)] (by decide) rfl (by decide) (Nat.le_of_ble_eq_true rfl) rfl ?_
  by_cases e0 : x = nI 0
  · subst e0
    refine mz_go [] 30 ?_
    simp only [mz_r0, ev_0, ev_1, ev_2, ev_3, ev_4, ev_5, ev_6, ev_7, ev_8, ev_9, ev_10, ev_11, ev_12, ev_13, ev_14, ev_15, ev_16, ev_17, ev_18, ev_19, ev_20, ev_21, ev_22, ev_23, ev_24, ev_25, ev_26, ev_27, ev_28, ev_29, ev_30, ev_31, ev_32, ev_33, ev_34, ev_35, ev_36, ev_37, ev_38, ev_39, ev_40, ev_41, ev_42, ev_43, ev_44, ev_45, ev_46, ev_47, ev_48, ev_49, ev_50, ev_51, ev_52, ev_53, ev_54, ev_55, ev_56, ev_57, ev_58, ev_59, ev_60, ev_61, ev_62, ev_63, ev_64, ev_65, ev_66, ev_67, ev_68, ev_69, ev_70, ev_71, ev_72, ev_73, ev_74, ev_75, ev_76, ev_77, ev_78, ev_79, ev_80, ev_81, ev_82, ev_83, mk_lit, mk_fin, mk_cat, mk_fit, mk_nar, mk_fld, mk_cls, mk_ty, mk_isr, List.mem_cons, List.not_mem_nil, or_false, or_true, false_or, true_or, Nat.reduceEqDiff, Nat.reduceAdd, Nat.reduceSub, Nat.reduceLT, Nat.reduceLeDiff, ↓reduceIte, if_true, if_false, List.getElem?_cons_zero, List.getElem?_cons_succ, List.set_cons_zero, List.set_cons_succ, List.length_cons, List.length_nil, mz_s1, mz_s2, mz_cl, true_and, and_true, false_and, and_false, List.append_nil, mk_b0, mk_b1, mk_b2, mk_bn, Value.int.injEq, Option.toList_some, Option.toList_none, List.cons_append, List.nil_append, Classical.not_not, Option.some.injEq, reduceCtorEq, ne_eq, not_true_eq_false, not_false_eq_true, false_implies, true_implies, mz_rl d_Model_fault_0, mz_rl d_Model_fault_1, mz_rl d_Model_fault_2, mz_rl d_Model_fault_5, mz_rl d_Model_fault_6, mz_rl d_Model_fault_9, mz_rl d_Model_fault_10, mz_rl d_Model_fault_13, mz_rl d_Model_fault_16, mz_rl d_Model_fault_17, mz_rl d_Model_fault_18, mz_rl d_Model_fault_21, mz_rl d_Model_fault_22, mz_rl d_Model_fault_25, mz_rl d_Model_fault_28, mz_rl d_Model_fault_29, j_Model_fault_6, j_Model_fault_13, j_Model_fault_18, j_Model_fault_25, nF_11, e158, mo, mz_u_s, mz_uu, show (nI 0 = 0) = True from eq_true rfl]
    exact fin _ (if_pos (by decide +kernel)).symm
  · have e0' : ¬ x = 0 := e0
    have t0 := ti_ne (k := 0) (by decide) e0
    by_cases e1 : x = nI 1
    · subst e1
      refine mz_go [] 30 ?_
      simp only [mz_r0, ev_0, ev_1, ev_2, ev_3, ev_4, ev_5, ev_6, ev_7, ev_8, ev_9, ev_10, ev_11, ev_12, ev_13, ev_14, ev_15, ev_16, ev_17, ev_18, ev_19, ev_20, ev_21, ev_22, ev_23, ev_24, ev_25, ev_26, ev_27, ev_28, ev_29, ev_30, ev_31, ev_32, ev_33, ev_34, ev_35, ev_36, ev_37, ev_38, ev_39, ev_40, ev_41, ev_42, ev_43, ev_44, ev_45, ev_46, ev_47, ev_48, ev_49, ev_50, ev_51, ev_52, ev_53, ev_54, ev_55, ev_56, ev_57, ev_58, ev_59, ev_60, ev_61, ev_62, ev_63, ev_64, ev_65, ev_66, ev_67, ev_68, ev_69, ev_70, ev_71, ev_72, ev_73, ev_74, ev_75, ev_76, ev_77, ev_78, ev_79, ev_80, ev_81, ev_82, ev_83, mk_lit, mk_fin, mk_cat, mk_fit, mk_nar, mk_fld, mk_cls, mk_ty, mk_isr, List.mem_cons, List.not_mem_nil, or_false, or_true, false_or, true_or, Nat.reduceEqDiff, Nat.reduceAdd, Nat.reduceSub, Nat.reduceLT, Nat.reduceLeDiff, ↓reduceIte, if_true, if_false, List.getElem?_cons_zero, List.getElem?_cons_succ, List.set_cons_zero, List.set_cons_succ, List.length_cons, List.length_nil, mz_s1, mz_s2, mz_cl, true_and, and_true, false_and, and_false, List.append_nil, mk_b0, mk_b1, mk_b2, mk_bn, Value.int.injEq, Option.toList_some, Option.toList_none, List.cons_append, List.nil_append, Classical.not_not, Option.some.injEq, reduceCtorEq, ne_eq, not_true_eq_false, not_false_eq_true, false_implies, true_implies, mz_rl d_Model_fault_0, mz_rl d_Model_fault_1, mz_rl d_Model_fault_2, mz_rl d_Model_fault_5, mz_rl d_Model_fault_6, mz_rl d_Model_fault_9, mz_rl d_Model_fault_10, mz_rl d_Model_fault_13, mz_rl d_Model_fault_16, mz_rl d_Model_fault_17, mz_rl d_Model_fault_18, mz_rl d_Model_fault_21, mz_rl d_Model_fault_22, mz_rl d_Model_fault_25, mz_rl d_Model_fault_28, mz_rl d_Model_fault_29, j_Model_fault_6, j_Model_fault_13, j_Model_fault_18, j_Model_fault_25, nF_11, e158, mo, mz_u_s, mz_uu, eq_false e0']
      exact fin _ (by unfold ftV; rw [if_neg (by decide +kernel), if_pos (by decide +kernel)])
    · have t1 := ti_ne (k := 1) (by decide) e1
      refine mz_go [] 30 ?_
      simp only [mz_r0, ev_0, ev_1, ev_2, ev_3, ev_4, ev_5, ev_6, ev_7, ev_8, ev_9, ev_10, ev_11, ev_12, ev_13, ev_14, ev_15, ev_16, ev_17, ev_18, ev_19, ev_20, ev_21, ev_22, ev_23, ev_24, ev_25, ev_26, ev_27, ev_28, ev_29, ev_30, ev_31, ev_32, ev_33, ev_34, ev_35, ev_36, ev_37, ev_38, ev_39, ev_40, ev_41, ev_42, ev_43, ev_44, ev_45, ev_46, ev_47, ev_48, ev_49, ev_50, ev_51, ev_52, ev_53, ev_54, ev_55, ev_56, ev_57, ev_58, ev_59, ev_60, ev_61, ev_62, ev_63, ev_64, ev_65, ev_66, ev_67, ev_68, ev_69, ev_70, ev_71, ev_72, ev_73, ev_74, ev_75, ev_76, ev_77, ev_78, ev_79, ev_80, ev_81, ev_82, ev_83, mk_lit, mk_fin, mk_cat, mk_fit, mk_nar, mk_fld, mk_cls, mk_ty, mk_isr, List.mem_cons, List.not_mem_nil, or_false, or_true, false_or, true_or, Nat.reduceEqDiff, Nat.reduceAdd, Nat.reduceSub, Nat.reduceLT, Nat.reduceLeDiff, ↓reduceIte, if_true, if_false, List.getElem?_cons_zero, List.getElem?_cons_succ, List.set_cons_zero, List.set_cons_succ, List.length_cons, List.length_nil, mz_s1, mz_s2, mz_cl, true_and, and_true, false_and, and_false, List.append_nil, mk_b0, mk_b1, mk_b2, mk_bn, Value.int.injEq, Option.toList_some, Option.toList_none, List.cons_append, List.nil_append, Classical.not_not, Option.some.injEq, reduceCtorEq, ne_eq, not_true_eq_false, not_false_eq_true, false_implies, true_implies, mz_rl d_Model_fault_0, mz_rl d_Model_fault_1, mz_rl d_Model_fault_2, mz_rl d_Model_fault_5, mz_rl d_Model_fault_6, mz_rl d_Model_fault_9, mz_rl d_Model_fault_10, mz_rl d_Model_fault_13, mz_rl d_Model_fault_16, mz_rl d_Model_fault_17, mz_rl d_Model_fault_18, mz_rl d_Model_fault_21, mz_rl d_Model_fault_22, mz_rl d_Model_fault_25, mz_rl d_Model_fault_28, mz_rl d_Model_fault_29, j_Model_fault_6, j_Model_fault_13, j_Model_fault_18, j_Model_fault_25, nF_11, e158, mo, mz_u_s, mz_uu, eq_false e0', eq_false e1]
      exact fin _ (by unfold ftV; rw [if_neg (by omega), if_neg (by omega)])
def coM (n : Nat) (f : mz_H) (K : Nat) (S : Nat → Nat) (cD sD : Nat → Nat → Nat) (w : tT) (x : Int32) (v : Option Value) (n' : Nat) (f' : mz_H) : Prop := n' = n ∧ MJ f' K S cD sD ∧ FrC f f' ∧ ((∃ i, i < 4 ∧ x = nI i ∧ v = some (.int (nI (w.1 i))) ∧ thq f f' (nI 0) no_U) ∨ (¬ okCo x ∧ v = some (.int (nI 0)) ∧ thq f f' (nI 1) no_U))
theorem c_Model_counter {cD sD : Nat → Nat → Nat} {K : Nat} {S : Nat → Nat} {m : mS} {w : tT} (G : mz_G) (n : Nat) (f : mz_H) (x : Int32) (h : MJ f K S cD sD) (hT : MT f m w) : mz_Ct G mk_P y_Model_counter b_Model_counter 2 (some .int) (r_Model_counter 0 0) [.ref 158, .int x] n f (coM n f K S cD sD w x) := by
  obtain ⟨W, t, h, hs, e158⟩ := MT_b h hT
  obtain ⟨-, ⟨g, e168, h8⟩, -⟩ := hT
  have hr : ∀ t', MJ (mz_u f 158 (mo t' K w.2.1 m.2.2.1 m.2.2.2 m.1 m.2.1)) K S cD sD ∧ FrC f (mz_u f 158 (mo t' K w.2.1 m.2.2.1 m.2.2.2 m.1 m.2.1)) := fun t' => ⟨⟨w.2.1, W, MP_t h _, hs⟩, FrC_1 f (by decide) _⟩
  refine mk_Ct 11 false [some (.ref 158), some (.int x)] (by decide) rfl (by decide) (Nat.le_of_ble_eq_true rfl) rfl ?_
  by_cases hx : 0 ≤ x.toInt ∧ x.toInt < 4
  · obtain ⟨j, hj, rfl⟩ := mk_nat (N := 4) hx.1 hx.2 (by decide)
    have ge0 : (0 : Int32) ≤ nI j := by
      show nI 0 ≤ nI j
      rw [nI_leI (show 0 < 2 ^ 31 by omega) (show j < 2 ^ 31 by omega)]; omega
    have lt0 : ¬ nI j < (0 : Int32) := by
      show ¬ nI j < nI 0
      rw [nI_ltI (show j < 2 ^ 31 by omega) (show 0 < 2 ^ 31 by omega)]; omega
    refine mz_go [] 40 ?_
    simp only [mz_r0, ev_0, ev_1, ev_2, ev_3, ev_4, ev_5, ev_6, ev_7, ev_8, ev_9, ev_10, ev_11, ev_12, ev_13, ev_14, ev_15, ev_16, ev_17, ev_18, ev_19, ev_20, ev_21, ev_22, ev_23, ev_24, ev_25, ev_26, ev_27, ev_28, ev_29, ev_30, ev_31, ev_32, ev_33, ev_34, ev_35, ev_36, ev_37, ev_38, ev_39, ev_40, ev_41, ev_42, ev_43, ev_44, ev_45, ev_46, ev_47, ev_48, ev_49, ev_50, ev_51, ev_52, ev_53, ev_54, ev_55, ev_56, ev_57, ev_58, ev_59, ev_60, ev_61, ev_62, ev_63, ev_64, ev_65, ev_66, ev_67, ev_68, ev_69, ev_70, ev_71, ev_72, ev_73, ev_74, ev_75, ev_76, ev_77, ev_78, ev_79, ev_80, ev_81, ev_82, ev_83, mk_lit, mk_fin, mk_cat, mk_fit, mk_nar, mk_fld, mk_cls, mk_ty, mk_isr, List.mem_cons, List.not_mem_nil, or_false, or_true, false_or, true_or, Nat.reduceEqDiff, Nat.reduceAdd, Nat.reduceSub, Nat.reduceLT, Nat.reduceLeDiff, ↓reduceIte, if_true, if_false, List.getElem?_cons_zero, List.getElem?_cons_succ, List.set_cons_zero, List.set_cons_succ, List.length_cons, List.length_nil, mz_s1, mz_s2, mz_cl, true_and, and_true, false_and, and_false, List.append_nil, mk_b0, mk_b1, mk_b2, mk_bn, Value.int.injEq, Option.toList_some, Option.toList_none, List.cons_append, List.nil_append, Classical.not_not, Option.some.injEq, reduceCtorEq, ne_eq, not_true_eq_false, not_false_eq_true, false_implies, true_implies, mz_rl d_Model_counter_0, mz_rl d_Model_counter_1, mz_rl d_Model_counter_2, mz_rl d_Model_counter_5, mz_rl d_Model_counter_6, mz_rl d_Model_counter_7, mz_rl d_Model_counter_10, mz_rl d_Model_counter_11, mz_rl d_Model_counter_14, mz_rl d_Model_counter_15, mz_rl d_Model_counter_18, mz_rl d_Model_counter_19, mz_rl d_Model_counter_22, mz_rl d_Model_counter_25, mz_rl d_Model_counter_26, mz_rl d_Model_counter_29, mz_rl d_Model_counter_30, mz_rl d_Model_counter_33, mz_rl d_Model_counter_34, mz_rl d_Model_counter_35, j_Model_counter_2, j_Model_counter_7, j_Model_counter_11, j_Model_counter_22, j_Model_counter_26, nF_11, e158, e168, mo, mz_u_s, mz_uu, eq_true ge0, eq_false lt0, nI_leI (show 4 < 2 ^ 31 by omega) (show j < 2 ^ 31 by omega), show ¬ 4 ≤ j by omega, show nI 0 ≤ (0 : Int32) by decide, mz_u_n (show 168 ≠ 158 by decide), vp_in_nI (show j < 4 by omega) (show 4 < 2 ^ 31 by decide), nI_clamp (show j < 2 ^ 31 by omega), h8 j hj]
    exact ⟨rfl, (hr _).1, (hr _).2, Or.inl ⟨j, hj, rfl, rfl, thq_1 e158 _⟩⟩
  · refine mz_go [] 40 ?_
    simp only [mz_r0, ev_0, ev_1, ev_2, ev_3, ev_4, ev_5, ev_6, ev_7, ev_8, ev_9, ev_10, ev_11, ev_12, ev_13, ev_14, ev_15, ev_16, ev_17, ev_18, ev_19, ev_20, ev_21, ev_22, ev_23, ev_24, ev_25, ev_26, ev_27, ev_28, ev_29, ev_30, ev_31, ev_32, ev_33, ev_34, ev_35, ev_36, ev_37, ev_38, ev_39, ev_40, ev_41, ev_42, ev_43, ev_44, ev_45, ev_46, ev_47, ev_48, ev_49, ev_50, ev_51, ev_52, ev_53, ev_54, ev_55, ev_56, ev_57, ev_58, ev_59, ev_60, ev_61, ev_62, ev_63, ev_64, ev_65, ev_66, ev_67, ev_68, ev_69, ev_70, ev_71, ev_72, ev_73, ev_74, ev_75, ev_76, ev_77, ev_78, ev_79, ev_80, ev_81, ev_82, ev_83, mk_lit, mk_fin, mk_cat, mk_fit, mk_nar, mk_fld, mk_cls, mk_ty, mk_isr, List.mem_cons, List.not_mem_nil, or_false, or_true, false_or, true_or, Nat.reduceEqDiff, Nat.reduceAdd, Nat.reduceSub, Nat.reduceLT, Nat.reduceLeDiff, ↓reduceIte, if_true, if_false, List.getElem?_cons_zero, List.getElem?_cons_succ, List.set_cons_zero, List.set_cons_succ, List.length_cons, List.length_nil, mz_s1, mz_s2, mz_cl, true_and, and_true, false_and, and_false, List.append_nil, mk_b0, mk_b1, mk_b2, mk_bn, Value.int.injEq, Option.toList_some, Option.toList_none, List.cons_append, List.nil_append, Classical.not_not, Option.some.injEq, reduceCtorEq, ne_eq, not_true_eq_false, not_false_eq_true, false_implies, true_implies, mz_rl d_Model_counter_0, mz_rl d_Model_counter_1, mz_rl d_Model_counter_2, mz_rl d_Model_counter_5, mz_rl d_Model_counter_6, mz_rl d_Model_counter_7, mz_rl d_Model_counter_10, mz_rl d_Model_counter_11, mz_rl d_Model_counter_14, mz_rl d_Model_counter_15, mz_rl d_Model_counter_18, mz_rl d_Model_counter_19, mz_rl d_Model_counter_22, mz_rl d_Model_counter_25, mz_rl d_Model_counter_26, mz_rl d_Model_counter_29, mz_rl d_Model_counter_30, mz_rl d_Model_counter_33, mz_rl d_Model_counter_34, mz_rl d_Model_counter_35, j_Model_counter_2, j_Model_counter_7, j_Model_counter_11, j_Model_counter_22, j_Model_counter_26, nF_11, e158, mo, mz_u_s, mz_uu, show ¬ nI 1 ≤ (0 : Int32) by decide, mk_lt, mk_le, mk_ti]
    repeat' first | exact ⟨rfl, (hr _).1, (hr _).2, Or.inr ⟨hx, rfl, thq_1 e158 _⟩⟩ | (exfalso; omega) | refine ⟨?_, ?_⟩ | intro _
