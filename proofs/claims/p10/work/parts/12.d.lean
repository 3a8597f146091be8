/-- a call that changes the light and the tabulator alone -/
theorem CI_tb {f F : mz_H} {n K : Nat} {sz : Nat → Nat} {cd s : Nat → Nat → Nat} (h : CI f n K sz cd s) {x : Nat} (hT : Tb F x) (h4 : ∃ u w, F 4 = .inr (5, [.int u, .int w])) (he : ∀ q, q ≠ 4 → (q < 16 ∨ 125 < q) → F q = f q) : CI F n K sz cd s ∧ FrY f F := by
  obtain ⟨x', h1, h2, h3, -, h5, h6, h7⟩ := h
  obtain ⟨c1, c2, c3, c4, c5, c6, c7, c8, c9, c10, c11, c12, c13, c14, c15⟩ := h3
  have hCB : CB F := by
    intro i hi
    obtain ⟨w, A, T, L, q1, q2⟩ := h5 i hi
    refine ⟨w, A, T, L, ?_, q2⟩
    unfold Bd
    rw [he _ (by omega) (by omega), he _ (by omega) (by omega), he _ (by omega) (by omega), he _ (by omega) (by omega)]
    exact q1
  refine ⟨⟨x, h1, h2, ⟨?_, ?_, ?_, ?_, h4, ?_, ?_, ?_, ?_, Dk0_eq c10 (he _ (by decide) (by decide)) (he _ (by decide) (by decide)), Dk0_eq c11 (he _ (by decide) (by decide)) (he _ (by decide) (by decide)), ?_, ?_, ?_, ?_⟩, hT, hCB, CD_eq h6 (fun q _ hq => he q (by omega) (by omega)), Cd_eq h7 h2 (fun q hq _ => he q (by omega) (by omega))⟩, fun q h1 _ => he q (by omega) (by omega)⟩
  all_goals (rw [he _ (by decide) (by decide)]; assumption)
def teP (f : mz_H) (n K : Nat) (sz : Nat → Nat) (cd s : Nat → Nat → Nat) (u : tT) (v : Option Value) (n' : Nat) (f' : mz_H) : Prop := v = some (.int (nI u.2.1)) ∧ n' = n ∧ CI f' n K sz cd s ∧ FrY f f' ∧ MU f f' no_U ∧ TT f' (u.1, 0, u.2.2)
theorem c_Office_tear (G : mz_G) (n : Nat) (f : mz_H) {K : Nat} {sz : Nat → Nat} {cd s : Nat → Nat → Nat} (h : CI f n K sz cd s) {u : tT} (hX : TT f u) :
    mz_Ct G mk_P y_Office_tear b_Office_tear 2 (some .int) (r_Office_tear 0 0) [.ref 0] n f (teP f n K sz cd s u) := by
  obtain ⟨lx, h1, h2, h3, h4, h5, h6, h7⟩ := id h
  have ho := h3.1
  have h16 := h4.1
  have h18 := hX.2.1
  refine mk_Ct 0 false [some (.ref 0), none] (by decide) rfl (by decide) (Nat.le_of_ble_eq_true rfl) rfl ?_
  refine mz_go [] 20 ?_
  simp only [mz_r0, ev_0, ev_1, ev_2, ev_3, ev_4, ev_5, ev_6, ev_7, ev_8, ev_9, ev_10, ev_11, ev_12, ev_13, ev_14, ev_15, ev_16, ev_17, ev_18, ev_19, ev_20, ev_21, ev_22, ev_23, ev_24, ev_25, ev_26, ev_27, ev_28, ev_29, ev_30, ev_31, ev_32, ev_33, ev_34, ev_35, ev_36, ev_37, ev_38, ev_39, ev_40, ev_41, ev_42, ev_43, ev_44, ev_45, ev_46, ev_47, ev_48, ev_49, ev_50, ev_51, ev_52, ev_53, ev_54, ev_55, ev_56, ev_57, ev_58, ev_59, ev_60, ev_61, ev_62, ev_63, ev_64, ev_65, ev_66, ev_67, ev_68, ev_69, ev_70, ev_71, ev_72, ev_73, ev_74, ev_75, ev_76, ev_77, ev_78, ev_79, ev_80, ev_81, ev_82, ev_83, mk_lit, mk_fin, mk_cat, mk_fit, mk_nar, mk_fld, mk_cls, mk_ty, mk_isr, List.mem_cons, List.not_mem_nil, or_false, or_true, false_or, true_or, Nat.reduceEqDiff, Nat.reduceAdd, Nat.reduceSub, Nat.reduceLT, Nat.reduceLeDiff, ↓reduceIte, if_true, if_false, List.getElem?_cons_zero, List.getElem?_cons_succ, List.set_cons_zero, List.set_cons_succ, List.length_cons, List.length_nil, mz_s1, mz_s2, mz_cl, true_and, and_true, false_and, and_false, List.append_nil, mk_b0, mk_b1, mk_b2, mk_bn, Value.int.injEq, Option.toList_some, Option.toList_none, List.cons_append, List.nil_append, Classical.not_not, Option.some.injEq, reduceCtorEq, ne_eq, not_true_eq_false, not_false_eq_true, false_implies, true_implies, mz_rl d_Office_tear_0, mz_rl d_Office_tear_1, mz_rl d_Office_tear_4, mz_rl d_Office_tear_7, mz_rl d_Office_tear_10, mz_rl d_Office_tear_11, mz_rl d_Office_tear_12, mz_rl d_Office_tear_15, mz_rl d_Office_tear_18, mz_rl d_Office_tear_19, mz_rl d_Office_tear_22, mz_rl d_Office_tear_23, nF_0, ho, h16, h18]
  suffices hCI : CI (mz_u f 18 (.inr (7, [.ref 19, .int (nI 0)]))) n K sz cd s ∧ FrY f (mz_u f 18 (.inr (7, [.ref 19, .int (nI 0)]))) from ⟨rfl, rfl, hCI.1, hCI.2, MU_n (mz_u_n (by decide)) (mz_u_n (by decide)) (mz_u_n (by decide)), (mz_u_n (by decide)).trans hX.1, mz_u_s _ _ _, fun i hi => absurd hi (Nat.not_lt_zero _), Nat.zero_le _, hX.2.2.2.2⟩
  refine CI_tb h (x := 0) ?_ ?_ (fun q q1 q2 => mz_u_n (by omega))
  · obtain ⟨t1, t2, t3, t4, t5, t6, t7, t8, t9, t10⟩ := h4
    refine ⟨?_, ?_, ⟨mz_u_s _ _ _, ?_, fun i hi => ?_⟩, by decide, ?_, ?_, ?_, ?_, ?_, ?_⟩
    case refine_4 => rw [mz_u_n (by omega)]; exact t3.2.2 i hi
    case refine_3 => rw [mz_u_n (by decide)]; exact t3.2.1
    all_goals (rw [mz_u_n (by decide)]; assumption)
  · rw [mz_u_n (by decide)]; exact h3.2.2.2.2.1
