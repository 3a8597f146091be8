section
/-! new int[N][K]: the outer array and its rows, one behind the other -/
def mz_mf (f : mz_H) (n N K : Nat) : mz_H := fun k => if k = n then aQ 7 N (fun i => if i < N then some (n + 1 + i) else none) else if n < k ∧ k < n + 1 + N then aI K (fun _ => nI 0) else f k
def mz_ma (ad : Nat → Nat) (n N h : Nat) : Nat → Nat := fun k => if n ≤ k ∧ k < n + 1 + N then h + (k - n) else ad k
theorem th_outer (c : ClassId) (N h0 : Nat) : ∀ i : Nat, Jvm.Free.Multi.outerC c N h0 i = arrV c N (fun j => va_rf (if j < i then some (h0 + 1 + j) else none)) := by
  intro i
  induction i with
  | zero =>
    show ({ cls := c, slots := Array.replicate N .null, vm := .none } : Cell) = _
    rw [arrV_new]
    congr 1
  | succ i ih =>
    show (Jvm.Free.Multi.outerC c N h0 i).setSlot i (.ref (h0 + 1 + i)) = _
    rw [ih, arrV_store]
    congr 1
    funext j
    by_cases e : j = i
    · subst e; simp [updV, va_rf]
    · by_cases h : j < i
      · simp [updV, e, h, Nat.lt_succ_of_lt h]
      · simp [updV, e, h, show ¬ j < i + 1 by omega]
theorem mz_mna {G : mz_G} {X : mz_E} {cn : Nat} {ini : Bool} {cc : ByteArray} {nL : Nat} {ret : Option FieldType} {rm : Room} {post : Option Value → Nat → mz_H → Prop} {thr : String → Nat → mz_H → Prop} {pc : Nat} {l : mz_L} {r : List Value} {k1 k2 n : Nat} {f : mz_H} {idx N K : Nat} {x y : Int32}
    (hd : decode cc pc = .ok (.multianewarray idx 2, 4)) (w1 : Cond.classLink (nm_Own cn) idx ("[" ++ (FieldType.array .int).toString) ∈ nm_Ts) (w2 : Cond.arrayOver (.array .int) ∈ nm_Ns) (w3 : Cond.arrayClass .int ∈ nm_Ts) (hx0 : ¬ x < 0) (hy0 : ¬ y < 0) (hxN : x.toNatClampNeg = N) (hyK : y.toNatClampNeg = K) (hb1 : N * 4 ≤ 536870912) (hb2 : K * 4 ≤ 536870912) (hm1 : k1 + (1 + N) ≤ rm.cells) (hm2 : k2 + (N + N * K) ≤ rm.slots) (hn : n + 1 + N ≤ mz_e0)
    (h : mz_X G X cn ini cc nL ret rm post thr (pc + 4) l (.ref n :: r) (k1 + 1 + N) (k2 + N + N * K) (n + 1 + N) (mz_mf f n N K)) : mz_X G X cn ini cc nL ret rm post thr pc l (.int y :: .int x :: r) k1 k2 n f := by
  subst hxN; subst hyK
  generalize hN : x.toNatClampNeg = N at *
  generalize hKK : y.toNatClampNeg = K at *
  intro hk1 hk2 hol hos p e s m args below meth c A H locs ls ad ad0 n0 ok rep hl
  obtain ⟨hx, hb, hml, hr, hown, hin, hlocks, hts, hns, hK, hA⟩ := id ok
  obtain ⟨rP, rD, rS, rW, rN, rA, rX⟩ := id rep
  intro T hT S
  obtain ⟨vm₁, cA, comp, -, fA, fC, hO, hI, S', step⟩ := S.multianewarray2F hx hown (hts _ w1) (show (Cond.arrayOver (.array .int)).before args s = true from hns _ w2) (hts _ w3) (g := F0 m pc ls (.int y :: .int x :: r.map (mz_v ad))) rfl (by rw [hb]; exact hd) rfl hx0 hy0 (by rw [hN]; exact hb1) (by rw [hKK]; exact hb2) (by rw [hKK]; omega) rfl rfl (by rw [hN]; exact hm1) (by rw [hN, hKK]; exact hm2)
  rw [hN, hKK] at S' step
  generalize hF : Jvm.Free.Multi.fill (T.setVm vm₁) cA comp N K (defaultValue .int) N = F at S' step
  have hTh : (T.setVm vm₁).heap = H := hT
  obtain ⟨f1, f2, -, -⟩ := Jvm.Free.Multi.fill_facts (T.setVm vm₁) cA comp N K (defaultValue .int) N
  rw [hF, hTh] at f1 f2
  have hold : ∀ q : Nat, q < H.size → F.heap[q]? = H[q]? := fun q hq => by
    have := Jvm.Free.Multi.fill_old (T.setVm vm₁) cA comp N K (defaultValue .int) (a := q) (by rw [hTh]; exact hq) N
    rw [hF, hTh] at this
    exact this
  have hrow : ∀ j : Nat, j < N → F.heap[H.size + 1 + j]? = some (Jvm.Free.Multi.innerC comp K (defaultValue .int)) := fun j hj => by
    have := Jvm.Free.Multi.fill_inner (T.setVm vm₁) cA comp N K (defaultValue .int) N j hj
    rw [hF, hTh] at this
    exact this
  rw [th_outer] at f2
  have e7 := (hK.2 7 _ (mz_ty_get (tA := G.2.2) (t := 7) (ty := .array .int) rfl)).2
  have e0 := (hK.2 0 _ (mz_ty_get (tA := G.2.2) (t := 0) (ty := .int) rfl)).2
  have c7 : G.2.2 7 = cA := Option.some.inj (e7.symm.trans fA)
  have c0 : G.2.2 0 = comp := Option.some.inj (e0.symm.trans fC)
  have hup : ∀ k, k < n ∨ mz_e0 ≤ k → mz_ma ad n N H.size k = ad k := fun k hk => by unfold mz_ma; rw [if_neg (by omega)]
  have hlt : ∀ k, k < n → ad k < H.size := fun k hk => (rP k _ (mz_w_get hk)).lt
  have hadn : ∀ k, n ≤ k → k < n + 1 + N → mz_ma ad n N H.size k = H.size + (k - n) := fun k h1 h2 => by unfold mz_ma; rw [if_pos ⟨h1, h2⟩]
  have hP1 : va_P G.2.1 nm_Cl (mz_w G.2.2 (mz_ma ad n N H.size) (n + 1 + N) (mz_mf f n N K)) F.heap := by
    intro k q hq
    obtain ⟨hk, rfl⟩ := mz_w_of hq
    by_cases q1 : k < n
    · have ef : mz_mf f n N K k = f k := by unfold mz_mf; rw [if_neg (by omega), if_neg (by omega)]
      rw [ef, hup k (Or.inl q1), mz_e_eq hup (rW.2.1 k)]
      exact (rP k _ (mz_w_get q1)).kept (hold _ (hlt k q1))
    · by_cases q2 : k = n
      · subst q2
        have ef : mz_mf f k N K k = aQ 7 N (fun i => if i < N then some (k + 1 + i) else none) := by unfold mz_mf; rw [if_pos rfl]
        rw [ef, hadn k (Nat.le_refl _) (by omega), Nat.sub_self]
        show F.heap[H.size + 0]? = some (vp_cell (G.2.2 7) (N, .inr (.inr (.inr (.inr (fun j => Option.map (mz_ma ad k N H.size) (if j < N then some (k + 1 + j) else none)))))))
        rw [vp_cell_q, c7, Nat.add_zero, f2]
        congr 2
        funext j
        by_cases hj : j < N
        · simp only [if_pos hj, Option.map_some, hadn (k + 1 + j) (by omega) (by omega)]
          congr 2; omega
        · simp only [if_neg hj, Option.map_none]
      · have ef : mz_mf f n N K k = aI K (fun _ => nI 0) := by unfold mz_mf; rw [if_neg q2, if_pos (by omega)]
        rw [ef, hadn k (by omega) hk]
        show F.heap[H.size + (k - n)]? = some (vp_cell (G.2.2 0) (K, .inl (fun _ => nI 0)))
        have e9 : H.size + (k - n) = H.size + 1 + (k - n - 1) := by omega
        rw [vp_cell_i, c0, e9, hrow (k - n - 1) (by omega)]
        show some ({ cls := comp, slots := Array.replicate K (defaultValue .int), vm := .none } : Cell) = _
        rw [arrV_new]
        rfl
  have hD1 : va_D A (mz_w G.2.2 (mz_ma ad n N H.size) (n + 1 + N) (mz_mf f n N K)) := by
    refine ⟨fun i j a b hi hj hab => ?_, fun k q hq => ?_⟩
    · obtain ⟨hi2, rfl⟩ := mz_w_of hi
      obtain ⟨hj2, rfl⟩ := mz_w_of hj
      have hab2 : mz_ma ad n N H.size i = mz_ma ad n N H.size j := hab
      by_cases q1 : i < n
      · by_cases q2 : j < n
        · rw [hup i (Or.inl q1), hup j (Or.inl q2)] at hab2
          exact rD.1 i j _ _ (mz_w_get q1) (mz_w_get q2) hab2
        · have := hlt i q1
          rw [hup i (Or.inl q1), hadn j (by omega) hj2] at hab2
          omega
      · by_cases q2 : j < n
        · have := hlt j q2
          rw [hup j (Or.inl q2), hadn i (by omega) hi2] at hab2
          omega
        · rw [hadn i (by omega) hi2, hadn j (by omega) hj2] at hab2
          omega
    · obtain ⟨hk, rfl⟩ := mz_w_of hq
      show A (mz_ma ad n N H.size k)
      by_cases q1 : k < n
      · rw [hup k (Or.inl q1)]; exact rD.2 k _ (mz_w_get q1)
      · rw [hadn k (by omega) hk]; exact hA _ (Nat.le_trans rS.1 (by omega))
  have hwf : mz_wf (n + 1 + N) (mz_mf f n N K) := by
    refine ⟨hn, fun k => ?_, fun k hk => ?_⟩
    · unfold mz_mf
      by_cases q1 : k = n
      · rw [if_pos q1]
        intro j a hj
        replace hj : (if j < N then some (n + 1 + j) else none) = some a := hj
        by_cases q2 : j < N
        · rw [if_pos q2] at hj; cases hj; omega
        · rw [if_neg q2] at hj; cases hj
      · rw [if_neg q1]
        by_cases q2 : n < k ∧ k < n + 1 + N
        · rw [if_pos q2]; trivial
        · rw [if_neg q2]; exact mz_okC_mono (by omega) (rW.2.1 k)
    · unfold mz_mf
      rw [if_neg (by omega), if_neg (by omega)]; exact rW.2.2 k (by omega)
  have hS1 : va_S A s.heap F.heap locs := ⟨by rw [f1]; have := rS.1; omega, fun q h1 h2 => by rw [hold q (Nat.lt_of_lt_of_le h1 rS.1)]; exact rS.2.1 q h1 h2, rS.2.2⟩
  have hst : (Value.ref n :: r).map (mz_v (mz_ma ad n N H.size)) = .ref H.size :: r.map (mz_v ad) := by
    rw [List.map_cons, mz_s_eq hup (mz_okS_tl (mz_okS_tl hos))]
    show Value.ref (mz_ma ad n N H.size n) :: _ = _
    rw [hadn n (Nat.le_refl _) (by omega), Nat.sub_self]; rfl
  obtain ⟨t, a1, b1⟩ := h (by omega) (by omega) (fun v hv => mz_okV_mono (by omega) (hol v hv)) (mz_okS_c (show n < n + 1 + N ∨ mz_e0 ≤ n from Or.inl (show n < n + 1 + N by omega)) (fun v hv => mz_okV_mono (by omega) (mz_okS_tl (mz_okS_tl hos) v hv))) p e s m args below meth c A F.heap locs ls (mz_ma ad n N H.size) ad0 n0 ok
    ⟨hP1, hD1, hS1, hwf, by omega, fun k hk => by rw [hup k (hk.imp (fun z => Nat.lt_of_lt_of_le z rN) id)]; exact rA k hk, mz_xt_ad (fun k hk => hup k (Or.inr hk)) rX⟩ (mz_lv_eq hup hol hl) F rfl S'
  rw [hst] at a1
  refine ⟨t, step t ?_, b1⟩
  rw [hT]
  exact a1
end
section
/-! the constructors -/
theorem c_FaultLight_init (G : mz_G) (X : mz_E) (n : Nat) (f : mz_H) {a : Nat} (h1 : f a = .inr (5, [.int (nI 0), .int (nI 0)])) (ha : a < n) : mz_Ct G X y_FaultLight_init b_FaultLight_init 1 none (r_FaultLight_init 0 0) [.ref a] n f (fun v n' f' => v = none ∧ n' = n ∧ f' = mz_u f a (.inr (5, [.int (nI 0), .int (-1)]))) := by
  refine mk_Ct 5 true [some (.ref a)] (by decide) rfl (by decide) (Nat.le_of_ble_eq_true rfl) rfl ?_
  refine mz_go [1] 4 ?_
  simp only [mz_r0, mk_lit, mk_fin, mk_cat, mk_fit, mk_nar, mk_cls, mk_ty, mk_isr, List.mem_cons, List.not_mem_nil, or_false, or_true, false_or, true_or, Nat.reduceEqDiff, Nat.reduceAdd, Nat.reduceSub, Nat.reduceLT, Nat.reduceLeDiff, ↓reduceIte, if_true, if_false, List.getElem?_cons_zero, List.getElem?_cons_succ, List.set_cons_zero, List.set_cons_succ, List.length_cons, List.length_nil, mz_s1, mz_s2, mz_cl, true_and, and_true, false_and, and_false, List.append_nil, mk_b0, mk_b1, mk_b2, mk_bn, Value.int.injEq, Option.toList_some, Option.toList_none, List.cons_append, List.nil_append, Classical.not_not, Option.some.injEq, reduceCtorEq, ne_eq, not_true_eq_false, not_false_eq_true, false_implies, true_implies, ev_41, mz_rl d_FaultLight_init_0, nF_5]
  refine mz_objInit (by simp only [d_FaultLight_init]) w_obj_5 (by decide) (by decide) ?_
  refine mz_go [] 20 ?_
  simp only [mz_r0, mk_lit, mk_fin, mk_cat, mk_fit, mk_nar, mk_cls, mk_ty, mk_isr, List.mem_cons, List.not_mem_nil, or_false, or_true, false_or, true_or, Nat.reduceEqDiff, Nat.reduceAdd, Nat.reduceSub, Nat.reduceLT, Nat.reduceLeDiff, ↓reduceIte, if_true, if_false, List.getElem?_cons_zero, List.getElem?_cons_succ, List.set_cons_zero, List.set_cons_succ, List.length_cons, List.length_nil, mz_s1, mz_s2, mz_cl, true_and, and_true, false_and, and_false, List.append_nil, mk_b0, mk_b1, mk_b2, mk_bn, Value.int.injEq, Option.toList_some, Option.toList_none, List.cons_append, List.nil_append, Classical.not_not, Option.some.injEq, reduceCtorEq, ne_eq, not_true_eq_false, not_false_eq_true, false_implies, true_implies, ev_41, ev_0, ev_80, ft_5_0, fn_5_0, ft_5_1, fn_5_1, ev_67, mz_rl d_FaultLight_init_4, mz_rl d_FaultLight_init_5, mz_rl d_FaultLight_init_6, mz_rl d_FaultLight_init_9, mz_rl d_FaultLight_init_10, mz_rl d_FaultLight_init_11, mz_rl d_FaultLight_init_14, nF_5, h1, mz_u_s, mz_uu, mk_fldF]
theorem c_Deck_init (G : mz_G) (X : mz_E) (n : Nat) (f : mz_H) {a : Nat} (h1 : f a = .inr (4, [.null, .int (nI 0)])) (ha : a < n) (hn : n + 1 ≤ mz_e0) : mz_Ct G X y_Deck_init b_Deck_init 1 none (r_Deck_init 1 200) [.ref a] n f (fun v n' f' => v = none ∧ n' = n + 1 ∧ f' = mz_u (mz_u f n (aQ 6 200 (fun _ => none))) a (.inr (4, [.ref n, .int (nI 0)]))) := by
  refine mk_Ct 4 true [some (.ref a)] (by decide) rfl (by decide) (Nat.le_of_ble_eq_true rfl) rfl ?_
  refine mz_go [1] 4 ?_
  simp only [mz_r0, mk_lit, mk_fin, mk_cat, mk_fit, mk_nar, mk_cls, mk_ty, mk_isr, List.mem_cons, List.not_mem_nil, or_false, or_true, false_or, true_or, Nat.reduceEqDiff, Nat.reduceAdd, Nat.reduceSub, Nat.reduceLT, Nat.reduceLeDiff, ↓reduceIte, if_true, if_false, List.getElem?_cons_zero, List.getElem?_cons_succ, List.set_cons_zero, List.set_cons_succ, List.length_cons, List.length_nil, mz_s1, mz_s2, mz_cl, true_and, and_true, false_and, and_false, List.append_nil, mk_b0, mk_b1, mk_b2, mk_bn, Value.int.injEq, Option.toList_some, Option.toList_none, List.cons_append, List.nil_append, Classical.not_not, Option.some.injEq, reduceCtorEq, ne_eq, not_true_eq_false, not_false_eq_true, false_implies, true_implies, ev_41, mz_rl d_Deck_init_0, nF_4]
  refine mz_objInit (by simp only [d_Deck_init]) w_obj_4 (by decide) (by decide) ?_
  refine mz_go [8] 4 ?_
  simp only [mz_r0, mk_lit, mk_fin, mk_cat, mk_fit, mk_nar, mk_cls, mk_ty, mk_isr, List.mem_cons, List.not_mem_nil, or_false, or_true, false_or, true_or, Nat.reduceEqDiff, Nat.reduceAdd, Nat.reduceSub, Nat.reduceLT, Nat.reduceLeDiff, ↓reduceIte, if_true, if_false, List.getElem?_cons_zero, List.getElem?_cons_succ, List.set_cons_zero, List.set_cons_succ, List.length_cons, List.length_nil, mz_s1, mz_s2, mz_cl, true_and, and_true, false_and, and_false, List.append_nil, mk_b0, mk_b1, mk_b2, mk_bn, Value.int.injEq, Option.toList_some, Option.toList_none, List.cons_append, List.nil_append, Classical.not_not, Option.some.injEq, reduceCtorEq, ne_eq, not_true_eq_false, not_false_eq_true, false_implies, true_implies, ev_41, ev_2, mz_rl d_Deck_init_4, mz_rl d_Deck_init_5, nF_4]
  refine mz_newq (C := "CardOffice$Card") (t := 6) (N := 200) (by simp only [d_Deck_init]) rfl w_anew_4_9 (by decide) (by decide) (by decide) (by decide) (by decide) (by omega) ?_
  refine mz_go [] 4 ?_
  simp only [mz_r0, mk_lit, mk_fin, mk_cat, mk_fit, mk_nar, mk_cls, mk_ty, mk_isr, List.mem_cons, List.not_mem_nil, or_false, or_true, false_or, true_or, Nat.reduceEqDiff, Nat.reduceAdd, Nat.reduceSub, Nat.reduceLT, Nat.reduceLeDiff, ↓reduceIte, if_true, if_false, List.getElem?_cons_zero, List.getElem?_cons_succ, List.set_cons_zero, List.set_cons_succ, List.length_cons, List.length_nil, mz_s1, mz_s2, mz_cl, true_and, and_true, false_and, and_false, List.append_nil, mk_b0, mk_b1, mk_b2, mk_bn, Value.int.injEq, Option.toList_some, Option.toList_none, List.cons_append, List.nil_append, Classical.not_not, Option.some.injEq, reduceCtorEq, ne_eq, not_true_eq_false, not_false_eq_true, false_implies, true_implies, ev_80, ft_4_0, fn_4_0, ev_67, mz_rl d_Deck_init_11, mz_rl d_Deck_init_14, nF_4, h1, mz_u_n (show a ≠ n by omega), mk_fldF]
theorem c_Jacks_init (G : mz_G) (X : mz_E) (n : Nat) (f : mz_H) {a q N : Nat} (h1 : f a = .inr (6, [.int (nI 0), .null, .int (nI 0)])) (ha : a < n) (hn : n + 1 ≤ mz_e0) (hN : N ≤ 100) : mz_Ct G X y_Jacks_init b_Jacks_init 3 none (r_Jacks_init 1 N) [.ref a, .int (nI q), .int (nI N)] n f (fun v n' f' => v = none ∧ n' = n + 1 ∧ f' = mz_u (mz_u f n (aI N (fun _ => nI 0))) a (.inr (6, [.int (nI q), .ref n, .int (nI 0)]))) := by
  refine mk_Ct 6 true [some (.ref a), some (.int (nI q)), some (.int (nI N))] (by decide) rfl (by decide) (Nat.le_of_ble_eq_true rfl) rfl ?_
  refine mz_go [1] 4 ?_
  simp only [mz_r0, mk_lit, mk_fin, mk_cat, mk_fit, mk_nar, mk_cls, mk_ty, mk_isr, List.mem_cons, List.not_mem_nil, or_false, or_true, false_or, true_or, Nat.reduceEqDiff, Nat.reduceAdd, Nat.reduceSub, Nat.reduceLT, Nat.reduceLeDiff, ↓reduceIte, if_true, if_false, List.getElem?_cons_zero, List.getElem?_cons_succ, List.set_cons_zero, List.set_cons_succ, List.length_cons, List.length_nil, mz_s1, mz_s2, mz_cl, true_and, and_true, false_and, and_false, List.append_nil, mk_b0, mk_b1, mk_b2, mk_bn, Value.int.injEq, Option.toList_some, Option.toList_none, List.cons_append, List.nil_append, Classical.not_not, Option.some.injEq, reduceCtorEq, ne_eq, not_true_eq_false, not_false_eq_true, false_implies, true_implies, ev_41, mz_rl d_Jacks_init_0, nF_6]
  refine mz_objInit (by simp only [d_Jacks_init]) w_obj_6 (Nat.le_of_ble_eq_true rfl) (Nat.le_of_ble_eq_true rfl) ?_
  refine mz_go [11] 12 ?_
  simp only [mz_r0, mk_lit, mk_fin, mk_cat, mk_fit, mk_nar, mk_cls, mk_ty, mk_isr, List.mem_cons, List.not_mem_nil, or_false, or_true, false_or, true_or, Nat.reduceEqDiff, Nat.reduceAdd, Nat.reduceSub, Nat.reduceLT, Nat.reduceLeDiff, ↓reduceIte, if_true, if_false, List.getElem?_cons_zero, List.getElem?_cons_succ, List.set_cons_zero, List.set_cons_succ, List.length_cons, List.length_nil, mz_s1, mz_s2, mz_cl, true_and, and_true, false_and, and_false, List.append_nil, mk_b0, mk_b1, mk_b2, mk_bn, Value.int.injEq, Option.toList_some, Option.toList_none, List.cons_append, List.nil_append, Classical.not_not, Option.some.injEq, reduceCtorEq, ne_eq, not_true_eq_false, not_false_eq_true, false_implies, true_implies, ev_41, ev_37, ev_80, ft_6_0, fn_6_0, mz_rl d_Jacks_init_4, mz_rl d_Jacks_init_5, mz_rl d_Jacks_init_6, mz_rl d_Jacks_init_9, mz_rl d_Jacks_init_10, nF_6, h1, mk_fldF]
  refine mz_newa (at' := .int) (ty := .int) (t := 0) (N := N) (a0 := (N, .inl (fun _ => nI 0))) (by simp only [d_Jacks_init]) rfl rfl (fun _ _ => rfl) w_arr_int (mk_arrI N) (fun _ => rfl) trivial (by show ¬ nI N < nI 0; rw [nI_ltI (show N < 2 ^ 31 by omega) (by decide)]; omega) (nI_clamp (show N < 2 ^ 31 by omega)) (by show N * 4 ≤ _; omega) (Nat.le_of_ble_eq_true rfl) (by show 0 + N ≤ N; omega) (by omega) ?_
  refine mz_go [] 12 ?_
  simp only [mz_r0, mk_lit, mk_fin, mk_cat, mk_fit, mk_nar, mk_cls, mk_ty, mk_isr, List.mem_cons, List.not_mem_nil, or_false, or_true, false_or, true_or, Nat.reduceEqDiff, Nat.reduceAdd, Nat.reduceSub, Nat.reduceLT, Nat.reduceLeDiff, ↓reduceIte, if_true, if_false, List.getElem?_cons_zero, List.getElem?_cons_succ, List.set_cons_zero, List.set_cons_succ, List.length_cons, List.length_nil, mz_s1, mz_s2, mz_cl, true_and, and_true, false_and, and_false, List.append_nil, mk_b0, mk_b1, mk_b2, mk_bn, Value.int.injEq, Option.toList_some, Option.toList_none, List.cons_append, List.nil_append, Classical.not_not, Option.some.injEq, reduceCtorEq, ne_eq, not_true_eq_false, not_false_eq_true, false_implies, true_implies, ev_80, ft_6_1, fn_6_1, ev_67, mz_rl d_Jacks_init_13, mz_rl d_Jacks_init_16, nF_6, mz_u_n (show a ≠ n by omega), mz_u_s, mk_fldF]
  rw [mz_uc _ (show a ≠ n by omega), mz_uu]
theorem c_Sorter_init (G : mz_G) (X : mz_E) (n : Nat) (f : mz_H) {a : Nat} {v2 : Value} (h1 : f a = .inr (9, [.null, .null, v2])) (ha : a < n) (hn : n + 2 ≤ mz_e0) : mz_Ct G X y_Sorter_init b_Sorter_init 1 none (r_Sorter_init 2 211) [.ref a] n f (fun v n' f' => v = none ∧ n' = n + 2 ∧ f' = mz_u (mz_u (mz_u f n (aI 11 (fun _ => nI 0))) (n + 1) (aQ 6 200 (fun _ => none))) a (.inr (9, [.ref n, .ref (n + 1), v2]))) := by
  refine mk_Ct 9 true [some (.ref a)] (by decide) rfl (by decide) (Nat.le_of_ble_eq_true rfl) rfl ?_
  refine mz_go [1] 4 ?_
  simp only [mz_r0, mk_lit, mk_fin, mk_cat, mk_fit, mk_nar, mk_cls, mk_ty, mk_isr, List.mem_cons, List.not_mem_nil, or_false, or_true, false_or, true_or, Nat.reduceEqDiff, Nat.reduceAdd, Nat.reduceSub, Nat.reduceLT, Nat.reduceLeDiff, ↓reduceIte, if_true, if_false, List.getElem?_cons_zero, List.getElem?_cons_succ, List.set_cons_zero, List.set_cons_succ, List.length_cons, List.length_nil, mz_s1, mz_s2, mz_cl, true_and, and_true, false_and, and_false, List.append_nil, mk_b0, mk_b1, mk_b2, mk_bn, Value.int.injEq, Option.toList_some, Option.toList_none, List.cons_append, List.nil_append, Classical.not_not, Option.some.injEq, reduceCtorEq, ne_eq, not_true_eq_false, not_false_eq_true, false_implies, true_implies, ev_41, mz_rl d_Sorter_init_0, nF_9]
  refine mz_objInit (by simp only [d_Sorter_init]) w_obj_9 (by decide) (by decide) ?_
  refine mz_go [7] 12 ?_
  simp only [mz_r0, mk_lit, mk_fin, mk_cat, mk_fit, mk_nar, mk_cls, mk_ty, mk_isr, List.mem_cons, List.not_mem_nil, or_false, or_true, false_or, true_or, Nat.reduceEqDiff, Nat.reduceAdd, Nat.reduceSub, Nat.reduceLT, Nat.reduceLeDiff, ↓reduceIte, if_true, if_false, List.getElem?_cons_zero, List.getElem?_cons_succ, List.set_cons_zero, List.set_cons_succ, List.length_cons, List.length_nil, mz_s1, mz_s2, mz_cl, true_and, and_true, false_and, and_false, List.append_nil, mk_b0, mk_b1, mk_b2, mk_bn, Value.int.injEq, Option.toList_some, Option.toList_none, List.cons_append, List.nil_append, Classical.not_not, Option.some.injEq, reduceCtorEq, ne_eq, not_true_eq_false, not_false_eq_true, false_implies, true_implies, ev_41, ev_1, mz_rl d_Sorter_init_4, mz_rl d_Sorter_init_5, nF_9]
  refine mz_newa (at' := .int) (ty := .int) (t := 0) (N := 11) (a0 := (11, .inl (fun _ => nI 0))) (by simp only [d_Sorter_init]) rfl rfl (fun _ _ => rfl) w_arr_int (mk_arrI 11) (fun _ => rfl) trivial (by decide) (by decide) (by decide) (by decide) (by decide) (by omega) ?_
  refine mz_go [16] 12 ?_
  simp only [mz_r0, mk_lit, mk_fin, mk_cat, mk_fit, mk_nar, mk_cls, mk_ty, mk_isr, List.mem_cons, List.not_mem_nil, or_false, or_true, false_or, true_or, Nat.reduceEqDiff, Nat.reduceAdd, Nat.reduceSub, Nat.reduceLT, Nat.reduceLeDiff, ↓reduceIte, if_true, if_false, List.getElem?_cons_zero, List.getElem?_cons_succ, List.set_cons_zero, List.set_cons_succ, List.length_cons, List.length_nil, mz_s1, mz_s2, mz_cl, true_and, and_true, false_and, and_false, List.append_nil, mk_b0, mk_b1, mk_b2, mk_bn, Value.int.injEq, Option.toList_some, Option.toList_none, List.cons_append, List.nil_append, Classical.not_not, Option.some.injEq, reduceCtorEq, ne_eq, not_true_eq_false, not_false_eq_true, false_implies, true_implies, ev_80, ft_9_0, fn_9_0, ev_41, ev_2, mz_rl d_Sorter_init_9, mz_rl d_Sorter_init_12, mz_rl d_Sorter_init_13, nF_9, h1, mz_u_n (show a ≠ n by omega), mz_u_s, mk_fldF]
  refine mz_newq (C := "CardOffice$Card") (t := 6) (N := 200) (by simp only [d_Sorter_init]) rfl w_anew_9_15 (by decide) (by decide) (by decide) (by decide) (by decide) (by omega) ?_
  refine mz_go [] 12 ?_
  simp only [mz_r0, mk_lit, mk_fin, mk_cat, mk_fit, mk_nar, mk_cls, mk_ty, mk_isr, List.mem_cons, List.not_mem_nil, or_false, or_true, false_or, true_or, Nat.reduceEqDiff, Nat.reduceAdd, Nat.reduceSub, Nat.reduceLT, Nat.reduceLeDiff, ↓reduceIte, if_true, if_false, List.getElem?_cons_zero, List.getElem?_cons_succ, List.set_cons_zero, List.set_cons_succ, List.length_cons, List.length_nil, mz_s1, mz_s2, mz_cl, true_and, and_true, false_and, and_false, List.append_nil, mk_b0, mk_b1, mk_b2, mk_bn, Value.int.injEq, Option.toList_some, Option.toList_none, List.cons_append, List.nil_append, Classical.not_not, Option.some.injEq, reduceCtorEq, ne_eq, not_true_eq_false, not_false_eq_true, false_implies, true_implies, ev_80, ft_9_1, fn_9_1, ev_67, mz_rl d_Sorter_init_19, mz_rl d_Sorter_init_22, nF_9, mz_u_n (show a ≠ n + 1 by omega), mz_u_s, mk_fldF]
  rw [mz_uc _ (show a ≠ n + 1 by omega), mz_uu]
theorem c_Board_init (G : mz_G) (X : mz_E) (f : mz_H) {b : Nat} (h1 : f b = .inr (1, [.null, .null, .null, .int (nI 0)])) (hn : b + 4 ≤ mz_e0) : mz_Ct G X y_Board_init b_Board_init 1 none (r_Board_init 3 84) [.ref b] (b + 1) f (fun v n' f' => v = none ∧ n' = b + 4 ∧ (Bd f' b 0 (fun _ => 0) (fun _ => 0) (cpy (fun _ => 3) (fun _ => 0) 4) ∧ BdOk 0 (fun _ => 0) (fun _ => 0) (cpy (fun _ => 3) (fun _ => 0) 4)) ∧ ∀ z, (z < b ∨ b + 3 < z) → f' z = f z) := by
  refine mk_Ct 1 true [some (.ref b)] (by decide) rfl (by decide) (Nat.le_of_ble_eq_true rfl) rfl ?_
  refine mz_go [1] 4 ?_
  simp only [mz_r0, mk_lit, mk_fin, mk_cat, mk_fit, mk_nar, mk_cls, mk_ty, mk_isr, List.mem_cons, List.not_mem_nil, or_false, or_true, false_or, true_or, Nat.reduceEqDiff, Nat.reduceAdd, Nat.reduceSub, Nat.reduceLT, Nat.reduceLeDiff, ↓reduceIte, if_true, if_false, List.getElem?_cons_zero, List.getElem?_cons_succ, List.set_cons_zero, List.set_cons_succ, List.length_cons, List.length_nil, mz_s1, mz_s2, mz_cl, true_and, and_true, false_and, and_false, List.append_nil, mk_b0, mk_b1, mk_b2, mk_bn, Value.int.injEq, Option.toList_some, Option.toList_none, List.cons_append, List.nil_append, Classical.not_not, Option.some.injEq, reduceCtorEq, ne_eq, not_true_eq_false, not_false_eq_true, false_implies, true_implies, ev_41, mz_rl d_Board_init_0, nF_1]
  refine mz_objInit (by simp only [d_Board_init]) w_obj_1 (by decide) (by decide) ?_
  refine mz_go [7] 12 ?_
  simp only [mz_r0, mk_lit, mk_fin, mk_cat, mk_fit, mk_nar, mk_cls, mk_ty, mk_isr, List.mem_cons, List.not_mem_nil, or_false, or_true, false_or, true_or, Nat.reduceEqDiff, Nat.reduceAdd, Nat.reduceSub, Nat.reduceLT, Nat.reduceLeDiff, ↓reduceIte, if_true, if_false, List.getElem?_cons_zero, List.getElem?_cons_succ, List.set_cons_zero, List.set_cons_succ, List.length_cons, List.length_nil, mz_s1, mz_s2, mz_cl, true_and, and_true, false_and, and_false, List.append_nil, mk_b0, mk_b1, mk_b2, mk_bn, Value.int.injEq, Option.toList_some, Option.toList_none, List.cons_append, List.nil_append, Classical.not_not, Option.some.injEq, reduceCtorEq, ne_eq, not_true_eq_false, not_false_eq_true, false_implies, true_implies, ev_41, ev_1, mz_rl d_Board_init_4, mz_rl d_Board_init_5, nF_1]
  refine mz_newa (at' := .int) (ty := .int) (t := 0) (N := 40) (a0 := (40, .inl (fun _ => nI 0))) (by simp only [d_Board_init]) rfl rfl (fun _ _ => rfl) w_arr_int (mk_arrI 40) (fun _ => rfl) trivial (by decide) (by decide) (by decide) (by decide) (by decide) (by omega) ?_
  refine mz_go [15] 12 ?_
  simp only [mz_r0, mk_lit, mk_fin, mk_cat, mk_fit, mk_nar, mk_cls, mk_ty, mk_isr, List.mem_cons, List.not_mem_nil, or_false, or_true, false_or, true_or, Nat.reduceEqDiff, Nat.reduceAdd, Nat.reduceSub, Nat.reduceLT, Nat.reduceLeDiff, ↓reduceIte, if_true, if_false, List.getElem?_cons_zero, List.getElem?_cons_succ, List.set_cons_zero, List.set_cons_succ, List.length_cons, List.length_nil, mz_s1, mz_s2, mz_cl, true_and, and_true, false_and, and_false, List.append_nil, mk_b0, mk_b1, mk_b2, mk_bn, Value.int.injEq, Option.toList_some, Option.toList_none, List.cons_append, List.nil_append, Classical.not_not, Option.some.injEq, reduceCtorEq, ne_eq, not_true_eq_false, not_false_eq_true, false_implies, true_implies, ev_80, ft_1_0, fn_1_0, ev_41, ev_1, mz_rl d_Board_init_9, mz_rl d_Board_init_12, mz_rl d_Board_init_13, nF_1, h1, mz_u_n (show b ≠ b + 1 by omega), mz_u_s, mk_fldF]
  refine mz_newa (at' := .int) (ty := .int) (t := 0) (N := 40) (a0 := (40, .inl (fun _ => nI 0))) (by simp only [d_Board_init]) rfl rfl (fun _ _ => rfl) w_arr_int (mk_arrI 40) (fun _ => rfl) trivial (by decide) (by decide) (by decide) (by decide) (by decide) (by omega) ?_
  refine mz_go [22] 12 ?_
  simp only [mz_r0, mk_lit, mk_fin, mk_cat, mk_fit, mk_nar, mk_cls, mk_ty, mk_isr, List.mem_cons, List.not_mem_nil, or_false, or_true, false_or, true_or, Nat.reduceEqDiff, Nat.reduceAdd, Nat.reduceSub, Nat.reduceLT, Nat.reduceLeDiff, ↓reduceIte, if_true, if_false, List.getElem?_cons_zero, List.getElem?_cons_succ, List.set_cons_zero, List.set_cons_succ, List.length_cons, List.length_nil, mz_s1, mz_s2, mz_cl, true_and, and_true, false_and, and_false, List.append_nil, mk_b0, mk_b1, mk_b2, mk_bn, Value.int.injEq, Option.toList_some, Option.toList_none, List.cons_append, List.nil_append, Classical.not_not, Option.some.injEq, reduceCtorEq, ne_eq, not_true_eq_false, not_false_eq_true, false_implies, true_implies, ev_80, ft_1_1, fn_1_1, ev_41, ev_0, mz_rl d_Board_init_17, mz_rl d_Board_init_20, mz_rl d_Board_init_21, nF_1, mz_u_n (show b ≠ b + 1 + 1 by omega), mz_u_s, mk_fldF]
  refine mz_newa (at' := .int) (ty := .int) (t := 0) (N := 4) (a0 := (4, .inl (fun _ => nI 0))) (by simp only [d_Board_init]) rfl rfl (fun _ _ => rfl) w_arr_int (mk_arrI 4) (fun _ => rfl) trivial (by decide) (by decide) (by decide) (by decide) (by decide) (by omega) ?_
  refine mz_go [32] 12 ?_
  simp only [mz_r0, mk_lit, mk_fin, mk_cat, mk_fit, mk_nar, mk_cls, mk_ty, mk_isr, List.mem_cons, List.not_mem_nil, or_false, or_true, false_or, true_or, Nat.reduceEqDiff, Nat.reduceAdd, Nat.reduceSub, Nat.reduceLT, Nat.reduceLeDiff, ↓reduceIte, if_true, if_false, List.getElem?_cons_zero, List.getElem?_cons_succ, List.set_cons_zero, List.set_cons_succ, List.length_cons, List.length_nil, mz_s1, mz_s2, mz_cl, true_and, and_true, false_and, and_false, List.append_nil, mk_b0, mk_b1, mk_b2, mk_bn, Value.int.injEq, Option.toList_some, Option.toList_none, List.cons_append, List.nil_append, Classical.not_not, Option.some.injEq, reduceCtorEq, ne_eq, not_true_eq_false, not_false_eq_true, false_implies, true_implies, ev_80, ft_1_2, fn_1_2, ev_41, ev_79, ev_0, mz_rl d_Board_init_24, mz_rl d_Board_init_27, mz_rl d_Board_init_28, mz_rl d_Board_init_31, nF_1, mz_u_n (show b ≠ b + 1 + 1 + 1 by omega), mz_u_s, mk_fldF]
  refine mz_callS (by simp only [d_Board_init_32, Nat.reduceAdd]) g_1_21 rfl (fun _ _ h => h) (c_Arrays_fill G X _ _ (g := fun _ => nI 0) (nI 3) (show _ = aI 4 (fun _ => nI 0) by rw [mz_u_n (by omega)]; exact mz_u_s _ _ _) (by decide)) (by decide) (Nat.le_of_ble_eq_true rfl) rfl ?_; rintro v_ n_ f_ ⟨rfl, rfl, rfl⟩
  refine mz_go [] 12 ?_
  simp only [mz_r0, mk_lit, mk_fin, mk_cat, mk_fit, mk_nar, mk_cls, mk_ty, mk_isr, List.mem_cons, List.not_mem_nil, or_false, or_true, false_or, true_or, Nat.reduceEqDiff, Nat.reduceAdd, Nat.reduceSub, Nat.reduceLT, Nat.reduceLeDiff, ↓reduceIte, if_true, if_false, List.getElem?_cons_zero, List.getElem?_cons_succ, List.set_cons_zero, List.set_cons_succ, List.length_cons, List.length_nil, mz_s1, mz_s2, mz_cl, true_and, and_true, false_and, and_false, List.append_nil, mk_b0, mk_b1, mk_b2, mk_bn, Value.int.injEq, Option.toList_some, Option.toList_none, List.cons_append, List.nil_append, Classical.not_not, Option.some.injEq, reduceCtorEq, ne_eq, not_true_eq_false, not_false_eq_true, false_implies, true_implies, ev_67, mz_rl d_Board_init_35, nF_1]
  refine ⟨⟨⟨?_, ?_, ?_, ?_⟩, by omega, fun j hj => absurd hj (by omega), fun j hj => by rw [cpy_lt hj]; decide⟩, fun z hz => ?_⟩
  · rw [mz_u_n (by omega), mz_u_s]
  · rw [mz_u_n (by omega), mz_u_n (by omega), mz_u_n (by omega), mz_u_n (by omega), mz_u_n (by omega), mz_u_n (by omega), mz_u_s]
  · rw [mz_u_n (by omega), mz_u_n (by omega), mz_u_n (by omega), mz_u_n (by omega), mz_u_s]
  · rw [mz_u_s, ← nI_cpy]
  · rw [mz_u_n (by omega), mz_u_n (by omega), mz_u_n (by omega), mz_u_n (by omega), mz_u_n (by omega), mz_u_n (by omega), mz_u_n (by omega)]
theorem c_Collator_init (G : mz_G) (X : mz_E) (f : mz_H) (h1 : f 8 = .inr (3, [.null, .null, .int (nI 0)])) : mz_Ct G X y_Collator_init b_Collator_init 1 none (r_Collator_init 4 404) [.ref 8] 9 f (fun v n' f' => v = none ∧ n' = 13 ∧ f' 8 = .inr (3, [.ref 9, .ref 11, .int (nI 0)]) ∧ (∃ c, Dk f' 9 10 0 0 c) ∧ (∃ c, Dk f' 11 12 0 0 c) ∧ ∀ z, (z < 8 ∨ 12 < z) → f' z = f z) := by
  refine mk_Ct 3 true [some (.ref 8)] (by decide) rfl (by decide) (Nat.le_of_ble_eq_true rfl) rfl ?_
  refine mz_go [1] 4 ?_
  simp only [mz_r0, mk_lit, mk_fin, mk_cat, mk_fit, mk_nar, mk_cls, mk_ty, mk_isr, List.mem_cons, List.not_mem_nil, or_false, or_true, false_or, true_or, Nat.reduceEqDiff, Nat.reduceAdd, Nat.reduceSub, Nat.reduceLT, Nat.reduceLeDiff, ↓reduceIte, if_true, if_false, List.getElem?_cons_zero, List.getElem?_cons_succ, List.set_cons_zero, List.set_cons_succ, List.length_cons, List.length_nil, mz_s1, mz_s2, mz_cl, true_and, and_true, false_and, and_false, List.append_nil, mk_b0, mk_b1, mk_b2, mk_bn, Value.int.injEq, Option.toList_some, Option.toList_none, List.cons_append, List.nil_append, Classical.not_not, Option.some.injEq, reduceCtorEq, ne_eq, not_true_eq_false, not_false_eq_true, false_implies, true_implies, ev_41, mz_rl d_Collator_init_0, nF_3]
  refine mz_objInit (by simp only [d_Collator_init]) w_obj_3 (by decide) (by decide) ?_
  refine mz_go [5] 12 ?_
  simp only [mz_r0, mk_lit, mk_fin, mk_cat, mk_fit, mk_nar, mk_cls, mk_ty, mk_isr, List.mem_cons, List.not_mem_nil, or_false, or_true, false_or, true_or, Nat.reduceEqDiff, Nat.reduceAdd, Nat.reduceSub, Nat.reduceLT, Nat.reduceLeDiff, ↓reduceIte, if_true, if_false, List.getElem?_cons_zero, List.getElem?_cons_succ, List.set_cons_zero, List.set_cons_succ, List.length_cons, List.length_nil, mz_s1, mz_s2, mz_cl, true_and, and_true, false_and, and_false, List.append_nil, mk_b0, mk_b1, mk_b2, mk_bn, Value.int.injEq, Option.toList_some, Option.toList_none, List.cons_append, List.nil_append, Classical.not_not, Option.some.injEq, reduceCtorEq, ne_eq, not_true_eq_false, not_false_eq_true, false_implies, true_implies, ev_41, mz_rl d_Collator_init_4, nF_3]
  refine mz_new (ci := 4) (fs := [.null, .int (nI 0)]) (by simp only [d_Collator_init]) rfl w_new_3_7 rfl (by decide) (by decide) (by decide) ?_
  refine mz_go [9] 12 ?_
  simp only [mz_r0, mk_lit, mk_fin, mk_cat, mk_fit, mk_nar, mk_cls, mk_ty, mk_isr, List.mem_cons, List.not_mem_nil, or_false, or_true, false_or, true_or, Nat.reduceEqDiff, Nat.reduceAdd, Nat.reduceSub, Nat.reduceLT, Nat.reduceLeDiff, ↓reduceIte, if_true, if_false, List.getElem?_cons_zero, List.getElem?_cons_succ, List.set_cons_zero, List.set_cons_succ, List.length_cons, List.length_nil, mz_s1, mz_s2, mz_cl, true_and, and_true, false_and, and_false, List.append_nil, mk_b0, mk_b1, mk_b2, mk_bn, Value.int.injEq, Option.toList_some, Option.toList_none, List.cons_append, List.nil_append, Classical.not_not, Option.some.injEq, reduceCtorEq, ne_eq, not_true_eq_false, not_false_eq_true, false_implies, true_implies, ev_32, mz_rl d_Collator_init_8, nF_3]
  refine mz_callI (by simp only [d_Collator_init_9, Nat.reduceAdd]) g_3_9 rfl (fun _ _ h => h) (c_Deck_init G X 10 _ (a := 9) (mz_u_s _ _ _) (by decide) (by decide)) (by decide) (Nat.le_of_ble_eq_true rfl) rfl ?_; rintro v_ n_ f_ ⟨rfl, rfl, rfl⟩
  refine mz_go [16] 12 ?_
  simp only [mz_r0, mk_lit, mk_fin, mk_cat, mk_fit, mk_nar, mk_cls, mk_ty, mk_isr, List.mem_cons, List.not_mem_nil, or_false, or_true, false_or, true_or, Nat.reduceEqDiff, Nat.reduceAdd, Nat.reduceSub, Nat.reduceLT, Nat.reduceLeDiff, ↓reduceIte, if_true, if_false, List.getElem?_cons_zero, List.getElem?_cons_succ, List.set_cons_zero, List.set_cons_succ, List.length_cons, List.length_nil, mz_s1, mz_s2, mz_cl, true_and, and_true, false_and, and_false, List.append_nil, mk_b0, mk_b1, mk_b2, mk_bn, Value.int.injEq, Option.toList_some, Option.toList_none, List.cons_append, List.nil_append, Classical.not_not, Option.some.injEq, reduceCtorEq, ne_eq, not_true_eq_false, not_false_eq_true, false_implies, true_implies, ev_80, ft_3_0, fn_3_0, ev_41, mz_rl d_Collator_init_12, mz_rl d_Collator_init_15, nF_3, h1, mz_u_n (show 8 ≠ 9 by decide), mz_u_n (show 8 ≠ 10 by decide), mk_fldF]
  refine mz_new (ci := 4) (fs := [.null, .int (nI 0)]) (by simp only [d_Collator_init]) rfl w_new_3_7 rfl (by decide) (by decide) (by decide) ?_
  refine mz_go [20] 12 ?_
  simp only [mz_r0, mk_lit, mk_fin, mk_cat, mk_fit, mk_nar, mk_cls, mk_ty, mk_isr, List.mem_cons, List.not_mem_nil, or_false, or_true, false_or, true_or, Nat.reduceEqDiff, Nat.reduceAdd, Nat.reduceSub, Nat.reduceLT, Nat.reduceLeDiff, ↓reduceIte, if_true, if_false, List.getElem?_cons_zero, List.getElem?_cons_succ, List.set_cons_zero, List.set_cons_succ, List.length_cons, List.length_nil, mz_s1, mz_s2, mz_cl, true_and, and_true, false_and, and_false, List.append_nil, mk_b0, mk_b1, mk_b2, mk_bn, Value.int.injEq, Option.toList_some, Option.toList_none, List.cons_append, List.nil_append, Classical.not_not, Option.some.injEq, reduceCtorEq, ne_eq, not_true_eq_false, not_false_eq_true, false_implies, true_implies, ev_32, mz_rl d_Collator_init_19, nF_3]
  refine mz_callI (by simp only [d_Collator_init_20, Nat.reduceAdd]) g_3_9 rfl (fun _ _ h => h) (c_Deck_init G X 12 _ (a := 11) (mz_u_s _ _ _) (by decide) (by decide)) (by decide) (Nat.le_of_ble_eq_true rfl) rfl ?_; rintro v_ n_ f_ ⟨rfl, rfl, rfl⟩
  refine mz_go [] 12 ?_
  simp only [mz_r0, mk_lit, mk_fin, mk_cat, mk_fit, mk_nar, mk_cls, mk_ty, mk_isr, List.mem_cons, List.not_mem_nil, or_false, or_true, false_or, true_or, Nat.reduceEqDiff, Nat.reduceAdd, Nat.reduceSub, Nat.reduceLT, Nat.reduceLeDiff, ↓reduceIte, if_true, if_false, List.getElem?_cons_zero, List.getElem?_cons_succ, List.set_cons_zero, List.set_cons_succ, List.length_cons, List.length_nil, mz_s1, mz_s2, mz_cl, true_and, and_true, false_and, and_false, List.append_nil, mk_b0, mk_b1, mk_b2, mk_bn, Value.int.injEq, Option.toList_some, Option.toList_none, List.cons_append, List.nil_append, Classical.not_not, Option.some.injEq, reduceCtorEq, ne_eq, not_true_eq_false, not_false_eq_true, false_implies, true_implies, ev_80, ft_3_1, fn_3_1, ev_67, mz_rl d_Collator_init_23, mz_rl d_Collator_init_26, nF_3, mz_u_n (show 8 ≠ 11 by decide), mz_u_n (show 8 ≠ 12 by decide), mz_u_s, mk_fldF]
  refine ⟨⟨fun _ => 0, fun _ => none, ?_, ?_, fun j hj => absurd hj (by omega)⟩, ⟨fun _ => 0, fun _ => none, ?_, ?_, fun j hj => absurd hj (by omega)⟩, fun z hz => ?_⟩
  · simp [mz_u]
  · simp [mz_u]
  · simp [mz_u]
  · simp [mz_u]
  · simp [mz_u, show z ≠ 8 by omega, show z ≠ 9 by omega, show z ≠ 10 by omega, show z ≠ 11 by omega, show z ≠ 12 by omega]
theorem c_Reproducer_init (G : mz_G) (X : mz_E) (f : mz_H) (h1 : f 13 = .inr (8, [.null])) : mz_Ct G X y_Reproducer_init b_Reproducer_init 1 none (r_Reproducer_init 2 19) [.ref 13] 14 f (fun v n' f' => v = none ∧ n' = 16 ∧ f' 13 = .inr (8, [.ref 14]) ∧ f' 14 = .inr (6, [.int (nI 0), .ref 15, .int (nI 0)]) ∧ (∃ g, f' 15 = aI 16 g) ∧ ∀ z, (z < 13 ∨ 15 < z) → f' z = f z) := by
  refine mk_Ct 8 true [some (.ref 13)] (by decide) rfl (by decide) (Nat.le_of_ble_eq_true rfl) rfl ?_
  refine mz_go [1] 4 ?_
  simp only [mz_r0, mk_lit, mk_fin, mk_cat, mk_fit, mk_nar, mk_cls, mk_ty, mk_isr, List.mem_cons, List.not_mem_nil, or_false, or_true, false_or, true_or, Nat.reduceEqDiff, Nat.reduceAdd, Nat.reduceSub, Nat.reduceLT, Nat.reduceLeDiff, ↓reduceIte, if_true, if_false, List.getElem?_cons_zero, List.getElem?_cons_succ, List.set_cons_zero, List.set_cons_succ, List.length_cons, List.length_nil, mz_s1, mz_s2, mz_cl, true_and, and_true, false_and, and_false, List.append_nil, mk_b0, mk_b1, mk_b2, mk_bn, Value.int.injEq, Option.toList_some, Option.toList_none, List.cons_append, List.nil_append, Classical.not_not, Option.some.injEq, reduceCtorEq, ne_eq, not_true_eq_false, not_false_eq_true, false_implies, true_implies, ev_41, mz_rl d_Reproducer_init_0, nF_8]
  refine mz_objInit (by simp only [d_Reproducer_init]) w_obj_8 (by decide) (by decide) ?_
  refine mz_go [5] 12 ?_
  simp only [mz_r0, mk_lit, mk_fin, mk_cat, mk_fit, mk_nar, mk_cls, mk_ty, mk_isr, List.mem_cons, List.not_mem_nil, or_false, or_true, false_or, true_or, Nat.reduceEqDiff, Nat.reduceAdd, Nat.reduceSub, Nat.reduceLT, Nat.reduceLeDiff, ↓reduceIte, if_true, if_false, List.getElem?_cons_zero, List.getElem?_cons_succ, List.set_cons_zero, List.set_cons_succ, List.length_cons, List.length_nil, mz_s1, mz_s2, mz_cl, true_and, and_true, false_and, and_false, List.append_nil, mk_b0, mk_b1, mk_b2, mk_bn, Value.int.injEq, Option.toList_some, Option.toList_none, List.cons_append, List.nil_append, Classical.not_not, Option.some.injEq, reduceCtorEq, ne_eq, not_true_eq_false, not_false_eq_true, false_implies, true_implies, ev_41, mz_rl d_Reproducer_init_4, nF_8]
  refine mz_new (ci := 6) (fs := [.int (nI 0), .null, .int (nI 0)]) (by simp only [d_Reproducer_init]) rfl w_new_8_9 rfl (by decide) (by decide) (by decide) ?_
  refine mz_go [12] 12 ?_
  simp only [mz_r0, mk_lit, mk_fin, mk_cat, mk_fit, mk_nar, mk_cls, mk_ty, mk_isr, List.mem_cons, List.not_mem_nil, or_false, or_true, false_or, true_or, Nat.reduceEqDiff, Nat.reduceAdd, Nat.reduceSub, Nat.reduceLT, Nat.reduceLeDiff, ↓reduceIte, if_true, if_false, List.getElem?_cons_zero, List.getElem?_cons_succ, List.set_cons_zero, List.set_cons_succ, List.length_cons, List.length_nil, mz_s1, mz_s2, mz_cl, true_and, and_true, false_and, and_false, List.append_nil, mk_b0, mk_b1, mk_b2, mk_bn, Value.int.injEq, Option.toList_some, Option.toList_none, List.cons_append, List.nil_append, Classical.not_not, Option.some.injEq, reduceCtorEq, ne_eq, not_true_eq_false, not_false_eq_true, false_implies, true_implies, ev_32, ev_0, ev_1, mz_rl d_Reproducer_init_8, mz_rl d_Reproducer_init_9, mz_rl d_Reproducer_init_10, nF_8]
  refine mz_callI (by simp only [d_Reproducer_init_12, Nat.reduceAdd]) g_8_11 rfl (fun _ _ h => h) (c_Jacks_init G X 15 _ (a := 14) (q := 0) (N := 16) (mz_u_s _ _ _) (by decide) (by decide) (by decide)) (by decide) (Nat.le_of_ble_eq_true rfl) rfl ?_; rintro v_ n_ f_ ⟨rfl, rfl, rfl⟩
  refine mz_go [] 12 ?_
  simp only [mz_r0, mk_lit, mk_fin, mk_cat, mk_fit, mk_nar, mk_cls, mk_ty, mk_isr, List.mem_cons, List.not_mem_nil, or_false, or_true, false_or, true_or, Nat.reduceEqDiff, Nat.reduceAdd, Nat.reduceSub, Nat.reduceLT, Nat.reduceLeDiff, ↓reduceIte, if_true, if_false, List.getElem?_cons_zero, List.getElem?_cons_succ, List.set_cons_zero, List.set_cons_succ, List.length_cons, List.length_nil, mz_s1, mz_s2, mz_cl, true_and, and_true, false_and, and_false, List.append_nil, mk_b0, mk_b1, mk_b2, mk_bn, Value.int.injEq, Option.toList_some, Option.toList_none, List.cons_append, List.nil_append, Classical.not_not, Option.some.injEq, reduceCtorEq, ne_eq, not_true_eq_false, not_false_eq_true, false_implies, true_implies, ev_80, ft_8_0, fn_8_0, ev_67, mz_rl d_Reproducer_init_15, mz_rl d_Reproducer_init_18, nF_8, h1, mz_u_n (show 13 ≠ 14 by decide), mz_u_n (show 13 ≠ 15 by decide), mk_fldF]
  refine ⟨?_, ?_, ⟨fun _ => nI 0, ?_⟩, fun z hz => ?_⟩
  · simp [mz_u]
  · simp [mz_u]
  · simp [mz_u]
  · simp [mz_u, show z ≠ 13 by omega, show z ≠ 14 by omega, show z ≠ 15 by omega]
end
section
/-! the words of each place that throws -/
def th_ok (w : Cond) : Bool := (((decide (w ∈ lw_tbl) && goodWord w) || (decide (w ∈ tables_1) && nm_isNest w)) && Jvm.Free.Str.ridesW w) || decide (w = .laysStatic Bundle.tN "UNASSIGNED_STACK" Bundle.steD) || decide (w = .laysStatic Bundle.tN "SUPPRESSED_SENTINEL" Bundle.listD) || decide (w = .isRef (.static Bundle.tN "UNASSIGNED_STACK" Bundle.steD)) || decide (w = .isRef (.static Bundle.tN "SUPPRESSED_SENTINEL" Bundle.listD))
theorem th_ok_of {L : List Cond} (h : L.all th_ok = true) : ∀ w ∈ L, ((w ∈ nm_Ts ∨ w ∈ nm_Ns) ∧ Jvm.Free.Str.ridesW w = true) ∨ w = .laysStatic Bundle.tN "UNASSIGNED_STACK" Bundle.steD ∨ w = .laysStatic Bundle.tN "SUPPRESSED_SENTINEL" Bundle.listD ∨ w = .isRef (.static Bundle.tN "UNASSIGNED_STACK" Bundle.steD) ∨ w = .isRef (.static Bundle.tN "SUPPRESSED_SENTINEL" Bundle.listD) := by
  intro w hw
  have h1 := List.all_eq_true.mp h w hw
  simp only [th_ok, Bool.or_eq_true, Bool.and_eq_true, decide_eq_true_eq] at h1
  rcases h1 with (((⟨h1 | h1, h2⟩ | h1) | h1) | h1) | h1
  · exact Or.inl ⟨Or.inl (List.mem_filter.mpr h1), h2⟩
  · exact Or.inl ⟨Or.inr (List.mem_filter.mpr ⟨List.mem_cons_of_mem _ h1.1, h1.2⟩), h2⟩
  · exact Or.inr (Or.inl h1)
  · exact Or.inr (Or.inr (Or.inl h1))
  · exact Or.inr (Or.inr (Or.inr (Or.inl h1)))
  · exact Or.inr (Or.inr (Or.inr (Or.inr h1)))
def th_up : List String := ["java/lang/RuntimeException", "java/lang/Exception"]
theorem th_w_113 : ∀ w ∈ Cond.classLink (nm_Own 0) 109 "java/lang/IllegalArgumentException" :: Cond.initialized "java/lang/IllegalArgumentException" :: Bundle.ownAtoms (nm_Own 0) 113 "java/lang/IllegalArgumentException" th_up, ((w ∈ nm_Ts ∨ w ∈ nm_Ns) ∧ Jvm.Free.Str.ridesW w = true) ∨ w = .laysStatic Bundle.tN "UNASSIGNED_STACK" Bundle.steD ∨ w = .laysStatic Bundle.tN "SUPPRESSED_SENTINEL" Bundle.listD ∨ w = .isRef (.static Bundle.tN "UNASSIGNED_STACK" Bundle.steD) ∨ w = .isRef (.static Bundle.tN "SUPPRESSED_SENTINEL" Bundle.listD) := th_ok_of (by decide +kernel)
theorem th_w_141 : ∀ w ∈ Cond.classLink (nm_Own 0) 137 "java/lang/IllegalStateException" :: Cond.initialized "java/lang/IllegalStateException" :: Bundle.ownAtoms (nm_Own 0) 141 "java/lang/IllegalStateException" th_up, ((w ∈ nm_Ts ∨ w ∈ nm_Ns) ∧ Jvm.Free.Str.ridesW w = true) ∨ w = .laysStatic Bundle.tN "UNASSIGNED_STACK" Bundle.steD ∨ w = .laysStatic Bundle.tN "SUPPRESSED_SENTINEL" Bundle.listD ∨ w = .isRef (.static Bundle.tN "UNASSIGNED_STACK" Bundle.steD) ∨ w = .isRef (.static Bundle.tN "SUPPRESSED_SENTINEL" Bundle.listD) := th_ok_of (by decide +kernel)
theorem th_w_195 : ∀ w ∈ Cond.classLink (nm_Own 0) 191 "java/lang/IndexOutOfBoundsException" :: Cond.initialized "java/lang/IndexOutOfBoundsException" :: Bundle.ownAtoms (nm_Own 0) 195 "java/lang/IndexOutOfBoundsException" th_up, ((w ∈ nm_Ts ∨ w ∈ nm_Ns) ∧ Jvm.Free.Str.ridesW w = true) ∨ w = .laysStatic Bundle.tN "UNASSIGNED_STACK" Bundle.steD ∨ w = .laysStatic Bundle.tN "SUPPRESSED_SENTINEL" Bundle.listD ∨ w = .isRef (.static Bundle.tN "UNASSIGNED_STACK" Bundle.steD) ∨ w = .isRef (.static Bundle.tN "SUPPRESSED_SENTINEL" Bundle.listD) := th_ok_of (by decide +kernel)
theorem th_s_111 : Cond.stringRef (nm_Own 0) 111 "no such deck or column" ∈ nm_Ns := List.mem_filter.mpr (by decide +kernel)
theorem th_s_123 : Cond.stringRef (nm_Own 0) 123 "no such deck or field" ∈ nm_Ns := List.mem_filter.mpr (by decide +kernel)
theorem th_s_132 : Cond.stringRef (nm_Own 0) 132 "no such two decks or field" ∈ nm_Ns := List.mem_filter.mpr (by decide +kernel)
theorem th_s_139 : Cond.stringRef (nm_Own 0) 139 "a deck is not sorted" ∈ nm_Ns := List.mem_filter.mpr (by decide +kernel)
theorem th_s_146 : Cond.stringRef (nm_Own 0) 146 "no such three decks or field" ∈ nm_Ns := List.mem_filter.mpr (by decide +kernel)
theorem th_s_152 : Cond.stringRef (nm_Own 0) 152 "no such board or two decks" ∈ nm_Ns := List.mem_filter.mpr (by decide +kernel)
theorem th_s_158 : Cond.stringRef (nm_Own 0) 158 "no such board, deck or column" ∈ nm_Ns := List.mem_filter.mpr (by decide +kernel)
theorem th_s_170 : Cond.stringRef (nm_Own 0) 170 "the product has a column of another field" ∈ nm_Ns := List.mem_filter.mpr (by decide +kernel)
theorem th_s_178 : Cond.stringRef (nm_Own 0) 178 "no such board or deck" ∈ nm_Ns := List.mem_filter.mpr (by decide +kernel)
theorem th_s_193 : Cond.stringRef (nm_Own 0) 193 "no such deck, card or column" ∈ nm_Ns := List.mem_filter.mpr (by decide +kernel)
theorem th_s_209 : Cond.stringRef (nm_Own 0) 209 "no such line or position" ∈ nm_Ns := List.mem_filter.mpr (by decide +kernel)
theorem th_s_214 : Cond.stringRef (nm_Own 0) 214 "no such counter" ∈ nm_Ns := List.mem_filter.mpr (by decide +kernel)
end
section
theorem w_mna1 : Cond.classLink (nm_Own 7) 9 ("[" ++ (FieldType.array .int).toString) ∈ nm_Ts := List.mem_filter.mpr (by decide +kernel)
theorem w_mna2 : Cond.arrayOver (.array .int) ∈ nm_Ns := List.mem_filter.mpr (by decide +kernel)
theorem c_Paper_init (G : mz_G) (X : mz_E) (f : mz_H) (h1 : f 18 = .inr (7, [.null, .int (nI 0)])) : mz_Ct G X y_Paper_init b_Paper_init 1 none (r_Paper_init 101 2500) [.ref 18] 19 f (fun v n' f' => v = none ∧ n' = 120 ∧ Pa f' 0 ∧ ∀ z, (z < 18 ∨ 119 < z) → f' z = f z) := by
  have e18 : mz_mf f 19 100 24 18 = .inr (7, [.null, .int (nI 0)]) := by unfold mz_mf; rw [if_neg (by decide), if_neg (by decide)]; exact h1
  refine mk_Ct 7 true [some (.ref 18)] (by decide) rfl (by decide) (Nat.le_of_ble_eq_true rfl) rfl ?_
  refine mz_go [1] 4 ?_
  simp only [mz_r0, mk_lit, mk_fin, mk_cat, mk_fit, mk_nar, mk_cls, mk_ty, mk_isr, List.mem_cons, List.not_mem_nil, or_false, or_true, false_or, true_or, Nat.reduceEqDiff, Nat.reduceAdd, Nat.reduceSub, Nat.reduceLT, Nat.reduceLeDiff, ↓reduceIte, if_true, if_false, List.getElem?_cons_zero, List.getElem?_cons_succ, List.set_cons_zero, List.set_cons_succ, List.length_cons, List.length_nil, mz_s1, mz_s2, mz_cl, true_and, and_true, false_and, and_false, List.append_nil, mk_b0, mk_b1, mk_b2, mk_bn, Value.int.injEq, Option.toList_some, Option.toList_none, List.cons_append, List.nil_append, Classical.not_not, Option.some.injEq, reduceCtorEq, ne_eq, not_true_eq_false, not_false_eq_true, false_implies, true_implies, ev_41, mz_rl d_Paper_init_0, nF_7]
  refine mz_objInit (by simp only [d_Paper_init]) w_obj_7 (by decide) (by decide) ?_
  refine mz_go [9] 12 ?_
  simp only [mz_r0, mk_lit, mk_fin, mk_cat, mk_fit, mk_nar, mk_cls, mk_ty, mk_isr, List.mem_cons, List.not_mem_nil, or_false, or_true, false_or, true_or, Nat.reduceEqDiff, Nat.reduceAdd, Nat.reduceSub, Nat.reduceLT, Nat.reduceLeDiff, ↓reduceIte, if_true, if_false, List.getElem?_cons_zero, List.getElem?_cons_succ, List.set_cons_zero, List.set_cons_succ, List.length_cons, List.length_nil, mz_s1, mz_s2, mz_cl, true_and, and_true, false_and, and_false, List.append_nil, mk_b0, mk_b1, mk_b2, mk_bn, Value.int.injEq, Option.toList_some, Option.toList_none, List.cons_append, List.nil_append, Classical.not_not, Option.some.injEq, reduceCtorEq, ne_eq, not_true_eq_false, not_false_eq_true, false_implies, true_implies, ev_41, ev_1, mz_rl d_Paper_init_4, mz_rl d_Paper_init_5, mz_rl d_Paper_init_7, nF_7]
  refine mz_mna (N := 100) (K := 24) (by simp only [d_Paper_init]) w_mna1 w_mna2 w_arr_int (by decide) (by decide) (by decide) (by decide) (by decide) (by decide) (by decide) (by decide) (by decide) ?_
  refine mz_go [] 12 ?_
  simp only [mz_r0, mk_lit, mk_fin, mk_cat, mk_fit, mk_nar, mk_cls, mk_ty, mk_isr, List.mem_cons, List.not_mem_nil, or_false, or_true, false_or, true_or, Nat.reduceEqDiff, Nat.reduceAdd, Nat.reduceSub, Nat.reduceLT, Nat.reduceLeDiff, ↓reduceIte, if_true, if_false, List.getElem?_cons_zero, List.getElem?_cons_succ, List.set_cons_zero, List.set_cons_succ, List.length_cons, List.length_nil, mz_s1, mz_s2, mz_cl, true_and, and_true, false_and, and_false, List.append_nil, mk_b0, mk_b1, mk_b2, mk_bn, Value.int.injEq, Option.toList_some, Option.toList_none, List.cons_append, List.nil_append, Classical.not_not, Option.some.injEq, reduceCtorEq, ne_eq, not_true_eq_false, not_false_eq_true, false_implies, true_implies, ev_80, ft_7_0, fn_7_0, ev_67, mz_rl d_Paper_init_13, mz_rl d_Paper_init_16, nF_7, e18, mk_fldF]
  refine ⟨⟨mz_u_s _ _ _, ?_, fun i hi => ⟨fun _ => nI 0, ?_⟩⟩, fun z hz => ?_⟩
  · rw [mz_u_n (by decide)]
    unfold mz_mf
    rw [if_pos rfl]
    congr 5
  · rw [mz_u_n (by omega)]
    unfold mz_mf
    rw [if_neg (by omega), if_pos (by omega)]
  · rw [mz_u_n (by omega)]
    unfold mz_mf
    rw [if_neg (by omega), if_neg (by omega)]
theorem c_Tabulator_init (G : mz_G) (X : mz_E) (f : mz_H) (h1 : f 16 = .inr (10, [.null, .null, .null, .null, .null])) : mz_Ct G X y_Tabulator_init b_Tabulator_init 1 none (r_Tabulator_init 109 2600) [.ref 16] 17 f (fun v n' f' => v = none ∧ n' = 126 ∧ Tb f' 0 ∧ f' 17 = aI 4 (fun _ => nI 0) ∧ ∀ z, (z < 16 ∨ 125 < z) → f' z = f z) := by
  refine mk_Ct 10 true [some (.ref 16)] (by decide) rfl (by decide) (Nat.le_of_ble_eq_true rfl) rfl ?_
  refine mz_go [1] 4 ?_
  simp only [mz_r0, mk_lit, mk_fin, mk_cat, mk_fit, mk_nar, mk_cls, mk_ty, mk_isr, List.mem_cons, List.not_mem_nil, or_false, or_true, false_or, true_or, Nat.reduceEqDiff, Nat.reduceAdd, Nat.reduceSub, Nat.reduceLT, Nat.reduceLeDiff, ↓reduceIte, if_true, if_false, List.getElem?_cons_zero, List.getElem?_cons_succ, List.set_cons_zero, List.set_cons_succ, List.length_cons, List.length_nil, mz_s1, mz_s2, mz_cl, true_and, and_true, false_and, and_false, List.append_nil, mk_b0, mk_b1, mk_b2, mk_bn, Value.int.injEq, Option.toList_some, Option.toList_none, List.cons_append, List.nil_append, Classical.not_not, Option.some.injEq, reduceCtorEq, ne_eq, not_true_eq_false, not_false_eq_true, false_implies, true_implies, ev_41, mz_rl d_Tabulator_init_0, nF_10]
  refine mz_objInit (by simp only [d_Tabulator_init]) w_obj_10 (by decide) (by decide) ?_
  refine mz_go [6] 12 ?_
  simp only [mz_r0, mk_lit, mk_fin, mk_cat, mk_fit, mk_nar, mk_cls, mk_ty, mk_isr, List.mem_cons, List.not_mem_nil, or_false, or_true, false_or, true_or, Nat.reduceEqDiff, Nat.reduceAdd, Nat.reduceSub, Nat.reduceLT, Nat.reduceLeDiff, ↓reduceIte, if_true, if_false, List.getElem?_cons_zero, List.getElem?_cons_succ, List.set_cons_zero, List.set_cons_succ, List.length_cons, List.length_nil, mz_s1, mz_s2, mz_cl, true_and, and_true, false_and, and_false, List.append_nil, mk_b0, mk_b1, mk_b2, mk_bn, Value.int.injEq, Option.toList_some, Option.toList_none, List.cons_append, List.nil_append, Classical.not_not, Option.some.injEq, reduceCtorEq, ne_eq, not_true_eq_false, not_false_eq_true, false_implies, true_implies, ev_41, ev_0, mz_rl d_Tabulator_init_4, mz_rl d_Tabulator_init_5, nF_10]
  refine mz_newa (at' := .int) (ty := .int) (t := 0) (N := 4) (a0 := (4, .inl (fun _ => nI 0))) (by simp only [d_Tabulator_init]) rfl rfl (fun _ _ => rfl) w_arr_int (mk_arrI 4) (fun _ => rfl) trivial (by decide) (by decide) (by decide) (by decide) (by decide) (by decide) ?_
  refine mz_go [12] 12 ?_
  simp only [mz_r0, mk_lit, mk_fin, mk_cat, mk_fit, mk_nar, mk_cls, mk_ty, mk_isr, List.mem_cons, List.not_mem_nil, or_false, or_true, false_or, true_or, Nat.reduceEqDiff, Nat.reduceAdd, Nat.reduceSub, Nat.reduceLT, Nat.reduceLeDiff, ↓reduceIte, if_true, if_false, List.getElem?_cons_zero, List.getElem?_cons_succ, List.set_cons_zero, List.set_cons_succ, List.length_cons, List.length_nil, mz_s1, mz_s2, mz_cl, true_and, and_true, false_and, and_false, List.append_nil, mk_b0, mk_b1, mk_b2, mk_bn, Value.int.injEq, Option.toList_some, Option.toList_none, List.cons_append, List.nil_append, Classical.not_not, Option.some.injEq, reduceCtorEq, ne_eq, not_true_eq_false, not_false_eq_true, false_implies, true_implies, ev_80, ft_10_0, fn_10_0, ev_41, mz_rl d_Tabulator_init_8, mz_rl d_Tabulator_init_11, nF_10, h1, mz_u_n (show 16 ≠ 17 by decide), mz_u_s, mk_fldF]
  refine mz_new (ci := 7) (fs := [.null, .int (nI 0)]) (by simp only [d_Tabulator_init]) rfl w_new_10_15 rfl (by decide) (by decide) (by decide) ?_
  refine mz_go [16] 12 ?_
  simp only [mz_r0, mk_lit, mk_fin, mk_cat, mk_fit, mk_nar, mk_cls, mk_ty, mk_isr, List.mem_cons, List.not_mem_nil, or_false, or_true, false_or, true_or, Nat.reduceEqDiff, Nat.reduceAdd, Nat.reduceSub, Nat.reduceLT, Nat.reduceLeDiff, ↓reduceIte, if_true, if_false, List.getElem?_cons_zero, List.getElem?_cons_succ, List.set_cons_zero, List.set_cons_succ, List.length_cons, List.length_nil, mz_s1, mz_s2, mz_cl, true_and, and_true, false_and, and_false, List.append_nil, mk_b0, mk_b1, mk_b2, mk_bn, Value.int.injEq, Option.toList_some, Option.toList_none, List.cons_append, List.nil_append, Classical.not_not, Option.some.injEq, reduceCtorEq, ne_eq, not_true_eq_false, not_false_eq_true, false_implies, true_implies, ev_32, mz_rl d_Tabulator_init_15, nF_10]
  refine mz_callI (by simp only [d_Tabulator_init_16, Nat.reduceAdd]) g_10_17 rfl (fun _ _ h => h) (c_Paper_init G X _ (mz_u_s _ _ _)) (by decide) (Nat.le_of_ble_eq_true rfl) rfl ?_; rintro v_ n_ f_ ⟨rfl, rfl, hP, hF⟩
  have g16 := hF 16 (by decide)
  rw [mz_u_n (by decide), mz_u_s] at g16
  have g17 := hF 17 (by decide)
  rw [mz_u_n (by decide), mz_u_n (by decide), mz_u_s] at g17
  have gF : ∀ z, (z < 16 ∨ 125 < z) → f_ z = f z := fun z hz => by
    rw [hF z (by omega), mz_u_n (by omega), mz_u_n (by omega), mz_u_n (by omega)]
  refine mz_go [23] 12 ?_
  simp only [mz_r0, mk_lit, mk_fin, mk_cat, mk_fit, mk_nar, mk_cls, mk_ty, mk_isr, List.mem_cons, List.not_mem_nil, or_false, or_true, false_or, true_or, Nat.reduceEqDiff, Nat.reduceAdd, Nat.reduceSub, Nat.reduceLT, Nat.reduceLeDiff, ↓reduceIte, if_true, if_false, List.getElem?_cons_zero, List.getElem?_cons_succ, List.set_cons_zero, List.set_cons_succ, List.length_cons, List.length_nil, mz_s1, mz_s2, mz_cl, true_and, and_true, false_and, and_false, List.append_nil, mk_b0, mk_b1, mk_b2, mk_bn, Value.int.injEq, Option.toList_some, Option.toList_none, List.cons_append, List.nil_append, Classical.not_not, Option.some.injEq, reduceCtorEq, ne_eq, not_true_eq_false, not_false_eq_true, false_implies, true_implies, ev_80, ft_10_1, fn_10_1, ev_41, mz_rl d_Tabulator_init_19, mz_rl d_Tabulator_init_22, nF_10, g16, mz_u_s, mk_fldF]
  refine mz_new (ci := 6) (fs := [.int (nI 0), .null, .int (nI 0)]) (by simp only [d_Tabulator_init]) rfl w_new_10_22 rfl (by decide) (by decide) (by decide) ?_
  refine mz_go [31] 12 ?_
  simp only [mz_r0, mk_lit, mk_fin, mk_cat, mk_fit, mk_nar, mk_cls, mk_ty, mk_isr, List.mem_cons, List.not_mem_nil, or_false, or_true, false_or, true_or, Nat.reduceEqDiff, Nat.reduceAdd, Nat.reduceSub, Nat.reduceLT, Nat.reduceLeDiff, ↓reduceIte, if_true, if_false, List.getElem?_cons_zero, List.getElem?_cons_succ, List.set_cons_zero, List.set_cons_succ, List.length_cons, List.length_nil, mz_s1, mz_s2, mz_cl, true_and, and_true, false_and, and_false, List.append_nil, mk_b0, mk_b1, mk_b2, mk_bn, Value.int.injEq, Option.toList_some, Option.toList_none, List.cons_append, List.nil_append, Classical.not_not, Option.some.injEq, reduceCtorEq, ne_eq, not_true_eq_false, not_false_eq_true, false_implies, true_implies, ev_32, ev_1, mz_rl d_Tabulator_init_26, mz_rl d_Tabulator_init_27, mz_rl d_Tabulator_init_29, nF_10]
  refine mz_callI (by simp only [d_Tabulator_init_31, Nat.reduceAdd]) g_10_24 rfl (fun _ _ h => h) (c_Jacks_init G X 121 _ (a := 120) (q := 32) (N := 24) (mz_u_s _ _ _) (by decide) (by decide) (by decide)) (by decide) (Nat.le_of_ble_eq_true rfl) rfl ?_; rintro v_ n_ f_ ⟨rfl, rfl, rfl⟩
  refine mz_go [38] 12 ?_
  simp only [mz_r0, mk_lit, mk_fin, mk_cat, mk_fit, mk_nar, mk_cls, mk_ty, mk_isr, List.mem_cons, List.not_mem_nil, or_false, or_true, false_or, true_or, Nat.reduceEqDiff, Nat.reduceAdd, Nat.reduceSub, Nat.reduceLT, Nat.reduceLeDiff, ↓reduceIte, if_true, if_false, List.getElem?_cons_zero, List.getElem?_cons_succ, List.set_cons_zero, List.set_cons_succ, List.length_cons, List.length_nil, mz_s1, mz_s2, mz_cl, true_and, and_true, false_and, and_false, List.append_nil, mk_b0, mk_b1, mk_b2, mk_bn, Value.int.injEq, Option.toList_some, Option.toList_none, List.cons_append, List.nil_append, Classical.not_not, Option.some.injEq, reduceCtorEq, ne_eq, not_true_eq_false, not_false_eq_true, false_implies, true_implies, ev_80, ft_10_2, fn_10_2, ev_41, mz_rl d_Tabulator_init_34, mz_rl d_Tabulator_init_37, nF_10, mz_u_n (show 16 ≠ 120 by decide), mz_u_n (show 16 ≠ 121 by decide), mz_u_s, mk_fldF]
  refine mz_new (ci := 6) (fs := [.int (nI 0), .null, .int (nI 0)]) (by simp only [d_Tabulator_init]) rfl w_new_10_22 rfl (by decide) (by decide) (by decide) ?_
  refine mz_go [46] 12 ?_
  simp only [mz_r0, mk_lit, mk_fin, mk_cat, mk_fit, mk_nar, mk_cls, mk_ty, mk_isr, List.mem_cons, List.not_mem_nil, or_false, or_true, false_or, true_or, Nat.reduceEqDiff, Nat.reduceAdd, Nat.reduceSub, Nat.reduceLT, Nat.reduceLeDiff, ↓reduceIte, if_true, if_false, List.getElem?_cons_zero, List.getElem?_cons_succ, List.set_cons_zero, List.set_cons_succ, List.length_cons, List.length_nil, mz_s1, mz_s2, mz_cl, true_and, and_true, false_and, and_false, List.append_nil, mk_b0, mk_b1, mk_b2, mk_bn, Value.int.injEq, Option.toList_some, Option.toList_none, List.cons_append, List.nil_append, Classical.not_not, Option.some.injEq, reduceCtorEq, ne_eq, not_true_eq_false, not_false_eq_true, false_implies, true_implies, ev_32, ev_1, mz_rl d_Tabulator_init_41, mz_rl d_Tabulator_init_42, mz_rl d_Tabulator_init_44, nF_10]
  refine mz_callI (by simp only [d_Tabulator_init_46, Nat.reduceAdd]) g_10_24 rfl (fun _ _ h => h) (c_Jacks_init G X 123 _ (a := 122) (q := 32) (N := 24) (mz_u_s _ _ _) (by decide) (by decide) (by decide)) (by decide) (Nat.le_of_ble_eq_true rfl) rfl ?_; rintro v_ n_ f_ ⟨rfl, rfl, rfl⟩
  refine mz_go [53] 12 ?_
  simp only [mz_r0, mk_lit, mk_fin, mk_cat, mk_fit, mk_nar, mk_cls, mk_ty, mk_isr, List.mem_cons, List.not_mem_nil, or_false, or_true, false_or, true_or, Nat.reduceEqDiff, Nat.reduceAdd, Nat.reduceSub, Nat.reduceLT, Nat.reduceLeDiff, ↓reduceIte, if_true, if_false, List.getElem?_cons_zero, List.getElem?_cons_succ, List.set_cons_zero, List.set_cons_succ, List.length_cons, List.length_nil, mz_s1, mz_s2, mz_cl, true_and, and_true, false_and, and_false, List.append_nil, mk_b0, mk_b1, mk_b2, mk_bn, Value.int.injEq, Option.toList_some, Option.toList_none, List.cons_append, List.nil_append, Classical.not_not, Option.some.injEq, reduceCtorEq, ne_eq, not_true_eq_false, not_false_eq_true, false_implies, true_implies, ev_80, ft_10_3, fn_10_3, ev_41, mz_rl d_Tabulator_init_49, mz_rl d_Tabulator_init_52, nF_10, mz_u_n (show 16 ≠ 122 by decide), mz_u_n (show 16 ≠ 123 by decide), mz_u_s, mk_fldF]
  refine mz_new (ci := 6) (fs := [.int (nI 0), .null, .int (nI 0)]) (by simp only [d_Tabulator_init]) rfl w_new_10_22 rfl (by decide) (by decide) (by decide) ?_
  refine mz_go [61] 12 ?_
  simp only [mz_r0, mk_lit, mk_fin, mk_cat, mk_fit, mk_nar, mk_cls, mk_ty, mk_isr, List.mem_cons, List.not_mem_nil, or_false, or_true, false_or, true_or, Nat.reduceEqDiff, Nat.reduceAdd, Nat.reduceSub, Nat.reduceLT, Nat.reduceLeDiff, ↓reduceIte, if_true, if_false, List.getElem?_cons_zero, List.getElem?_cons_succ, List.set_cons_zero, List.set_cons_succ, List.length_cons, List.length_nil, mz_s1, mz_s2, mz_cl, true_and, and_true, false_and, and_false, List.append_nil, mk_b0, mk_b1, mk_b2, mk_bn, Value.int.injEq, Option.toList_some, Option.toList_none, List.cons_append, List.nil_append, Classical.not_not, Option.some.injEq, reduceCtorEq, ne_eq, not_true_eq_false, not_false_eq_true, false_implies, true_implies, ev_32, ev_1, mz_rl d_Tabulator_init_56, mz_rl d_Tabulator_init_57, mz_rl d_Tabulator_init_59, nF_10]
  refine mz_callI (by simp only [d_Tabulator_init_61, Nat.reduceAdd]) g_10_24 rfl (fun _ _ h => h) (c_Jacks_init G X 125 _ (a := 124) (q := 64) (N := 24) (mz_u_s _ _ _) (by decide) (by decide) (by decide)) (by decide) (Nat.le_of_ble_eq_true rfl) rfl ?_; rintro v_ n_ f_ ⟨rfl, rfl, rfl⟩
  refine mz_go [] 12 ?_
  simp only [mz_r0, mk_lit, mk_fin, mk_cat, mk_fit, mk_nar, mk_cls, mk_ty, mk_isr, List.mem_cons, List.not_mem_nil, or_false, or_true, false_or, true_or, Nat.reduceEqDiff, Nat.reduceAdd, Nat.reduceSub, Nat.reduceLT, Nat.reduceLeDiff, ↓reduceIte, if_true, if_false, List.getElem?_cons_zero, List.getElem?_cons_succ, List.set_cons_zero, List.set_cons_succ, List.length_cons, List.length_nil, mz_s1, mz_s2, mz_cl, true_and, and_true, false_and, and_false, List.append_nil, mk_b0, mk_b1, mk_b2, mk_bn, Value.int.injEq, Option.toList_some, Option.toList_none, List.cons_append, List.nil_append, Classical.not_not, Option.some.injEq, reduceCtorEq, ne_eq, not_true_eq_false, not_false_eq_true, false_implies, true_implies, ev_80, ft_10_4, fn_10_4, ev_67, mz_rl d_Tabulator_init_64, mz_rl d_Tabulator_init_67, nF_10, mz_u_n (show 16 ≠ 124 by decide), mz_u_n (show 16 ≠ 125 by decide), mz_u_s, mk_fldF]
  refine ⟨⟨mz_u_s _ _ _, ⟨fun _ => nI 0, ?_⟩, ?_, by decide, ⟨nI 0, ?_⟩, ⟨fun _ => nI 0, ?_⟩, ⟨nI 0, ?_⟩, ⟨fun _ => nI 0, ?_⟩, ⟨nI 0, ?_⟩, ⟨fun _ => nI 0, ?_⟩⟩, ?_, fun z hz => ?_⟩
  · simp [mz_u]; exact g17
  · refine ⟨?_, ?_, fun i hi => ?_⟩
    · simp [mz_u]; exact hP.1
    · simp [mz_u]; exact hP.2.1
    · obtain ⟨g, hg⟩ := hP.2.2 i hi
      refine ⟨g, ?_⟩
      simp [mz_u, show 20 + i ≠ 16 by omega, show 20 + i ≠ 120 by omega, show 20 + i ≠ 121 by omega, show 20 + i ≠ 122 by omega, show 20 + i ≠ 123 by omega, show 20 + i ≠ 124 by omega, show 20 + i ≠ 125 by omega]; exact hg
  · simp [mz_u]
  · simp [mz_u]
  · simp [mz_u]
  · simp [mz_u]
  · simp [mz_u]
  · simp [mz_u]
  · simp [mz_u]; exact g17
  · simp [mz_u, show z ≠ 16 by omega, show z ≠ 120 by omega, show z ≠ 121 by omega, show z ≠ 122 by omega, show z ≠ 123 by omega, show z ≠ 124 by omega, show z ≠ 125 by omega]
    exact gF z hz
end
section
/-! the office's state, as far as p5 needs it: all is there, the boards' wires are good ones, each card lies in one deck -/
def deckQ : Nat → Option Nat := fun i => if i < 8 then some (126 + 2 * i) else none
def boardQ : Nat → Option Nat := fun i => if i < 4 then some (142 + 4 * i) else none
theorem deckQ_at {i : Nat} (h : i < 8) : deckQ i = some (126 + 2 * i) := by unfold deckQ; rw [if_pos h]
theorem boardQ_at {i : Nat} (h : i < 4) : boardQ i = some (142 + 4 * i) := by unfold boardQ; rw [if_pos h]
/-- what no call changes, and the machines' own cells -/
def CM (f : mz_H) (K : Nat) : Prop := f 0 = .inr (0, [.ref 1, .ref 2, .ref 3, .ref 4, .ref 5, .ref 8, .ref 13, .ref 16]) ∧ f 1 = aQ 4 8 deckQ ∧ f 2 = aQ 5 4 boardQ ∧ (∃ g, f 3 = aI 16 g) ∧ (∃ u w, f 4 = .inr (5, [.int u, .int w])) ∧ (∃ v, f 5 = .inr (9, [.ref 6, .ref 7, .int v])) ∧ (∃ g, f 6 = aI 11 g) ∧ (∃ g, f 7 = aQ 6 200 g) ∧ (∃ br, f 8 = .inr (3, [.ref 9, .ref 11, .int br])) ∧ (∃ c, Dk f 9 10 0 K c) ∧ (∃ c, Dk f 11 12 0 K c) ∧ f 13 = .inr (8, [.ref 14]) ∧ (∃ cl, f 14 = .inr (6, [.int (nI 0), .ref 15, .int cl])) ∧ (∃ g, f 15 = aI 16 g) ∧ f 1000000000001 = mz_d
def CB (f : mz_H) : Prop := ∀ i, i < 4 → ∃ w F T L, Bd f (142 + 4 * i) w F T L ∧ BdOk w F T L
def CD (f : mz_H) (K : Nat) (sz : Nat → Nat) (cd : Nat → Nat → Nat) : Prop := (∀ i, i < 8 → Dk f (126 + 2 * i) (127 + 2 * i) (sz i) K (cd i)) ∧ sz 0 + sz 1 + sz 2 + sz 3 + sz 4 + sz 5 + sz 6 + sz 7 = K
def CI (f : mz_H) (n K : Nat) (sz : Nat → Nat) (cd s : Nat → Nat → Nat) : Prop := ∃ x, n = 172 + 2 * K ∧ K ≤ 200 ∧ CM f K ∧ Tb f x ∧ CB f ∧ CD f K sz cd ∧ Cd f K s
/-- the reference's cells, which the class never touches -/
def FrM (f F : mz_H) : Prop := ∀ q, (q < 126 ∨ 158 ≤ q ∧ q < 172) → F q = f q
theorem Dk_eq {f F : mz_H} {D A r K : Nat} {c : Nat → Nat} (h : Dk f D A r K c) (h1 : F D = f D) (h2 : F A = f A) : Dk F D A r K c := by
  obtain ⟨g, e1, e2, e3⟩ := h
  exact ⟨g, h1.trans e1, h2.trans e2, e3⟩
theorem Dk0_eq {f F : mz_H} {D A r K : Nat} (h : ∃ c, Dk f D A r K c) (h1 : F D = f D) (h2 : F A = f A) : ∃ c, Dk F D A r K c := by
  obtain ⟨c, h⟩ := h
  exact ⟨c, Dk_eq h h1 h2⟩
theorem CM_eq {f F : mz_H} {K : Nat} (h : CM f K) (he : ∀ q, q < 16 → F q = f q) (h2 : F 1000000000001 = f 1000000000001) : CM F K := by
  obtain ⟨c1, c2, c3, c4, c5, c6, c7, c8, c9, c10, c11, c12, c13, c14, c15⟩ := h
  refine ⟨?_, ?_, ?_, ?_, ?_, ?_, ?_, ?_, ?_, Dk0_eq c10 (he _ (by decide)) (he _ (by decide)), Dk0_eq c11 (he _ (by decide)) (he _ (by decide)), ?_, ?_, ?_, h2.trans c15⟩ <;> rw [he _ (by decide)] <;> assumption
theorem Pa_eq {f F : mz_H} {x : Nat} (h : Pa f x) (he : ∀ q, 16 ≤ q → q < 126 → F q = f q) : Pa F x := by
  refine ⟨?_, ?_, fun i hi => ?_⟩
  · rw [he _ (by decide) (by decide)]; exact h.1
  · rw [he _ (by decide) (by decide)]; exact h.2.1
  · rw [he _ (by omega) (by omega)]; exact h.2.2 i hi
theorem Tb_eq {f F : mz_H} {x : Nat} (h : Tb f x) (he : ∀ q, 16 ≤ q → q < 126 → F q = f q) : Tb F x := by
  obtain ⟨t1, t2, t3, t4, t5, t6, t7, t8, t9, t10⟩ := h
  refine ⟨?_, ?_, Pa_eq t3 he, t4, ?_, ?_, ?_, ?_, ?_, ?_⟩ <;> rw [he _ (by decide) (by decide)] <;> assumption
theorem CD_eq {f F : mz_H} {K : Nat} {sz : Nat → Nat} {cd : Nat → Nat → Nat} (h : CD f K sz cd) (he : ∀ q, 126 ≤ q → q < 142 → F q = f q) : CD F K sz cd := ⟨fun i hi => Dk_eq (h.1 i hi) (he _ (by omega) (by omega)) (he _ (by omega) (by omega)), h.2⟩
theorem Cd_eq {f F : mz_H} {K : Nat} {s : Nat → Nat → Nat} (h : Cd f K s) (hK : K ≤ 200) (he : ∀ q, 172 ≤ q → q < 1000 → F q = f q) : Cd F K s := fun k hk => by
  rw [he _ (by omega) (by omega), he _ (by omega) (by omega)]; exact h k hk
theorem CB_set {f F : mz_H} (h : CB f) {i w : Nat} {A T L : Nat → Nat} (hi : i < 4) (hB : Bd F (142 + 4 * i) w A T L) (hok : BdOk w A T L) (he : ∀ q, (q < 142 + 4 * i ∨ 145 + 4 * i < q) → F q = f q) : CB F := by
  intro j hj
  by_cases e : j = i
  · subst e; exact ⟨w, A, T, L, hB, hok⟩
  · obtain ⟨w', A', T', L', q1, q2⟩ := h j hj
    refine ⟨w', A', T', L', ?_, q2⟩
    unfold Bd
    rw [he _ (by omega), he _ (by omega), he _ (by omega), he _ (by omega)]
    exact q1
/-- a call that changes one board alone -/
theorem CI_bd {f F : mz_H} {n K : Nat} {sz : Nat → Nat} {cd s : Nat → Nat → Nat} (h : CI f n K sz cd s) {i w : Nat} {A T L : Nat → Nat} (hi : i < 4) (hB : Bd F (142 + 4 * i) w A T L) (hok : BdOk w A T L) (he : ∀ q, (q < 142 + 4 * i ∨ 145 + 4 * i < q) → F q = f q) : CI F n K sz cd s ∧ FrM f F := by
  obtain ⟨x, h1, h2, h3, h4, h5, h6, h7⟩ := h
  exact ⟨⟨x, h1, h2, CM_eq h3 (fun q hq => he q (by omega)) (he _ (by omega)), Tb_eq h4 (fun q _ hq => he q (by omega)), CB_set h5 hi hB hok he, CD_eq h6 (fun q _ hq => he q (by omega)), Cd_eq h7 h2 (fun q hq _ => he q (by omega))⟩, fun q h1 => he q (by omega)⟩
/-! the boards, exactly: how many wires, from where, to where, the counters' levels -/
abbrev bS : Type := (Nat → Nat) × (Nat → Nat → Nat) × (Nat → Nat → Nat) × (Nat → Nat → Nat)
def bOk (B : bS) : Prop := ∀ i, i < 4 → BdOk (B.1 i) (B.2.1 i) (B.2.2.1 i) (B.2.2.2 i)
def BX (f : mz_H) (B : bS) : Prop := ∀ i, i < 4 → Bd f (142 + 4 * i) (B.1 i) (B.2.1 i) (B.2.2.1 i) (B.2.2.2 i)
def bs0 : bS := (fun _ => 0, fun _ _ => 0, fun _ _ => 0, fun _ => cpy (fun _ => 3) (fun _ => 0) 4)
/-- nothing but the class's cells ahead of the boards, and its cards -/
def FrB (f F : mz_H) : Prop := ∀ q, (16 ≤ q ∧ q < 126 ∨ 142 ≤ q) → q < 172 → F q = f q
/-- the same, but for the tabulator -/
def FrY (f F : mz_H) : Prop := ∀ q, 142 ≤ q → q < 172 → F q = f q
theorem FrB_Y {f F : mz_H} (h : FrB f F) : FrY f F := fun q a b => h q (Or.inr a) b
theorem TT_B {f F : mz_H} {u : tT} (h : TT f u) (hF : FrB f F) : TT F u := TT_eq h (fun q hq => hF q (by omega) (by omega))
/-- the light, how many passes, how many cards were brought -/
abbrev mS : Type := Int32 × Int32 × Int32 × Int32
def MC (f : mz_H) (m : mS) : Prop := f 4 = .inr (5, [.int m.1, .int m.2.1]) ∧ f 5 = .inr (9, [.ref 6, .ref 7, .int m.2.2.1]) ∧ f 8 = .inr (3, [.ref 9, .ref 11, .int m.2.2.2])
def MU (f F : mz_H) (φ : mS → mS) : Prop := ∀ m, MC f m → MC F (φ m)
def mS0 : mS := (nI 0, -1, nI 0, nI 0)
def ps_U (d : Int32) : mS → mS := fun m => (m.1, m.2.1, m.2.2.1 + d, m.2.2.2)
def br_U (d : Int32) : mS → mS := fun m => (m.1, m.2.1, m.2.2.1, m.2.2.2 + d)
def lg_U (k i : Nat) : mS → mS := fun m => (nI k, if k = 0 then -1 else nI i, m.2.2.1, m.2.2.2)
def no_U : mS → mS := fun m => m
theorem MU_n {f F : mz_H} (h4 : F 4 = f 4) (h5 : F 5 = f 5) (h8 : F 8 = f 8) : MU f F no_U := fun m ⟨a, b, c⟩ => ⟨h4.trans a, h5.trans b, h8.trans c⟩
theorem MU_rf (f : mz_H) : MU f f no_U := fun m h => h
theorem MU_p {f F : mz_H} {v d : Int32} (h4 : F 4 = f 4) (h8 : F 8 = f 8) (k5 : f 5 = .inr (9, [.ref 6, .ref 7, .int v])) (h5 : F 5 = .inr (9, [.ref 6, .ref 7, .int (v + d)])) : MU f F (ps_U d) := fun m ⟨a, b, c⟩ => by
  rw [k5] at b
  have e : v = m.2.2.1 := by cases b; rfl
  rw [e] at h5
  exact ⟨h4.trans a, h5, h8.trans c⟩
theorem MU_b {f F : mz_H} {v d : Int32} (h4 : F 4 = f 4) (h5 : F 5 = f 5) (k8 : f 8 = .inr (3, [.ref 9, .ref 11, .int v])) (h8 : F 8 = .inr (3, [.ref 9, .ref 11, .int (v + d)])) : MU f F (br_U d) := fun m ⟨a, b, c⟩ => by
  rw [k8] at c
  have e : v = m.2.2.2 := by cases c; rfl
  rw [e] at h8
  exact ⟨h4.trans a, h5.trans b, h8⟩
theorem MU_l {f F : mz_H} {k i : Nat} (h4 : F 4 = lightC k i) (h5 : F 5 = f 5) (h8 : F 8 = f 8) : MU f F (lg_U k i) := fun m ⟨a, b, c⟩ => ⟨h4, h5.trans b, h8.trans c⟩
theorem MC_M {f F : mz_H} {m : mS} (h : MC f m) (hF : FrM f F) : MC F m := ⟨(hF 4 (by decide)).trans h.1, (hF 5 (by decide)).trans h.2.1, (hF 8 (by decide)).trans h.2.2⟩
theorem TT_M {f F : mz_H} {u : tT} (h : TT f u) (hF : FrM f F) : TT F u := TT_eq h (fun q hq => hF q (by omega))
def lvS (B : bS) (x y z : Int32) : bS := if (0 ≤ x.toInt ∧ x.toInt < 4) ∧ (0 ≤ y.toInt ∧ y.toInt < 4) ∧ 0 ≤ z.toInt ∧ z.toInt < 4 then (B.1, B.2.1, B.2.2.1, va_up B.2.2.2 x.toNatClampNeg (va_up (B.2.2.2 x.toNatClampNeg) y.toNatClampNeg z.toNatClampNeg)) else B
def stO (B : bS) (x : Int32) : Int32 := if 0 ≤ x.toInt ∧ x.toInt < 4 then nI (B.1 x.toNatClampNeg) else -1
def stS (B : bS) (x : Int32) : bS := if 0 ≤ x.toInt ∧ x.toInt < 4 then (va_up B.1 x.toNatClampNeg 0, B.2.1, B.2.2.1, va_up B.2.2.2 x.toNatClampNeg (cpy (fun _ => 3) (B.2.2.2 x.toNatClampNeg) 4)) else B
def wrO (B : bS) (x y z : Int32) : Bool := decide ((0 ≤ x.toInt ∧ x.toInt < 4) ∧ (0 ≤ y.toInt ∧ y.toInt < 26 ∨ 32 ≤ y.toInt ∧ y.toInt < 56) ∧ ((0 ≤ z.toInt ∧ z.toInt < 16) ∨ 32 ≤ z.toInt ∧ z.toInt < 56 ∨ 64 ≤ z.toInt ∧ z.toInt < 88 ∨ 96 ≤ z.toInt ∧ z.toInt < 100) ∧ B.1 x.toNatClampNeg < 40 ∧ hwB (B.2.1 x.toNatClampNeg) (B.2.2.1 x.toNatClampNeg) y.toNatClampNeg z.toNatClampNeg 0 (B.1 x.toNatClampNeg) = false)
def wrA (B : bS) (i j k : Nat) : bS := (va_up B.1 i (B.1 i + 1), va_up B.2.1 i (va_up (B.2.1 i) (B.1 i) j), va_up B.2.2.1 i (va_up (B.2.2.1 i) (B.1 i) k), B.2.2.2)
def wrS (B : bS) (x y z : Int32) : bS := if wrO B x y z = true then wrA B x.toNatClampNeg y.toNatClampNeg z.toNatClampNeg else B
theorem bs0_ok : bOk bs0 := fun i _ => ⟨Nat.zero_le 40, fun j hj => absurd hj (Nat.not_lt_zero _), fun j hj => by show cpy (fun _ => 3) (fun _ => 0) 4 j < 4; rw [cpy_lt hj]; decide⟩
theorem BX_CB {f : mz_H} {B : bS} (h : BX f B) (hk : bOk B) : CB f := fun i hi => ⟨_, _, _, _, h i hi, hk i hi⟩
theorem BX_eq {f F : mz_H} {B : bS} (h : BX f B) (he : ∀ q, 142 ≤ q → q < 158 → F q = f q) : BX F B := fun i hi => by
  unfold Bd
  rw [he _ (by omega) (by omega), he _ (by omega) (by omega), he _ (by omega) (by omega), he _ (by omega) (by omega)]
  exact h i hi
theorem BX_set {f F : mz_H} {B : bS} (h : BX f B) {i w : Nat} {A T L : Nat → Nat} (hB : Bd F (142 + 4 * i) w A T L) (he : ∀ q, (q < 142 + 4 * i ∨ 145 + 4 * i < q) → F q = f q) : BX F (va_up B.1 i w, va_up B.2.1 i A, va_up B.2.2.1 i T, va_up B.2.2.2 i L) := by
  intro j hj
  by_cases e : j = i
  · subst e
    show Bd F (142 + 4 * j) (va_up B.1 j w j) (va_up B.2.1 j A j) (va_up B.2.2.1 j T j) (va_up B.2.2.2 j L j)
    rw [va_up_self, va_up_self, va_up_self, va_up_self]
    exact hB
  · show Bd F (142 + 4 * j) (va_up B.1 i w j) (va_up B.2.1 i A j) (va_up B.2.2.1 i T j) (va_up B.2.2.2 i L j)
    rw [va_up_ne _ _ e, va_up_ne _ _ e, va_up_ne _ _ e, va_up_ne _ _ e]
    unfold Bd
    rw [he _ (by omega), he _ (by omega), he _ (by omega), he _ (by omega)]
    exact h j hj
theorem bOk_set {B : bS} (h : bOk B) {i w : Nat} {A T L : Nat → Nat} (hB : BdOk w A T L) : bOk (va_up B.1 i w, va_up B.2.1 i A, va_up B.2.2.1 i T, va_up B.2.2.2 i L) := by
  intro j hj
  by_cases e : j = i
  · subst e
    show BdOk (va_up B.1 j w j) (va_up B.2.1 j A j) (va_up B.2.2.1 j T j) (va_up B.2.2.2 j L j)
    rw [va_up_self, va_up_self, va_up_self, va_up_self]
    exact hB
  · show BdOk (va_up B.1 i w j) (va_up B.2.1 i A j) (va_up B.2.2.1 i T j) (va_up B.2.2.2 i L j)
    rw [va_up_ne _ _ e, va_up_ne _ _ e, va_up_ne _ _ e, va_up_ne _ _ e]
    exact h j hj
theorem vu_id {α : Type} (f : Nat → α) (k : Nat) : va_up f k (f k) = f := by
  funext j; unfold va_up; split
  · rename_i h; rw [h]
  · rfl
theorem lvS_ok {B : bS} (h : bOk B) (x y z : Int32) : bOk (lvS B x y z) := by
  unfold lvS
  split
  · rename_i q
    obtain ⟨⟨x0, x4⟩, ⟨y0, y4⟩, z0, z4⟩ := q
    obtain ⟨i, hi, rfl⟩ := mk_nat (N := 4) x0 x4 (by decide)
    obtain ⟨j, hj, rfl⟩ := mk_nat (N := 4) y0 y4 (by decide)
    obtain ⟨k, hk, rfl⟩ := mk_nat (N := 4) z0 z4 (by decide)
    rw [nI_clamp (by omega), nI_clamp (by omega), nI_clamp (by omega)]
    have := bOk_set (i := i) h (w := B.1 i) (A := B.2.1 i) (T := B.2.2.1 i) (L := va_up (B.2.2.2 i) j k) ⟨(h i hi).1, (h i hi).2.1, fun m hm => by
      by_cases e : m = j
      · subst e; rw [va_up_self]; exact hk
      · rw [va_up_ne _ _ e]; exact (h i hi).2.2 m hm⟩
    rw [vu_id, vu_id, vu_id] at this
    exact this
  · exact h
theorem stS_ok {B : bS} (h : bOk B) (x : Int32) : bOk (stS B x) := by
  unfold stS
  split
  · rename_i q
    obtain ⟨i, hi, rfl⟩ := mk_nat (N := 4) q.1 q.2 (by decide)
    rw [nI_clamp (by omega)]
    have := bOk_set (i := i) h (w := 0) (A := B.2.1 i) (T := B.2.2.1 i) (L := cpy (fun _ => 3) (B.2.2.2 i) 4) ⟨by decide, fun j hj => absurd hj (by omega), fun j hj => by rw [cpy_lt hj]; decide⟩
    rw [vu_id, vu_id] at this
    exact this
  · exact h
theorem wrS_ok {B : bS} (h : bOk B) (x y z : Int32) : bOk (wrS B x y z) := by
  unfold wrS
  split
  · rename_i q
    obtain ⟨q1, q2, q3, q4, -⟩ := of_decide_eq_true q
    obtain ⟨i, hi, rfl⟩ := mk_nat (x := x) (N := 4) q1.1 q1.2 (by decide)
    obtain ⟨j, hj, rfl⟩ := mk_nat (x := y) (N := 56) (by omega) (by omega) (by decide)
    obtain ⟨k, hk, rfl⟩ := mk_nat (x := z) (N := 100) (by omega) (by omega) (by decide)
    rw [mk_nti (show j < 2 ^ 31 by omega)] at q2
    rw [mk_nti (show k < 2 ^ 31 by omega)] at q3
    rw [nI_clamp (by omega)] at q4
    rw [nI_clamp (by omega), nI_clamp (by omega), nI_clamp (by omega)]
    have := bOk_set (i := i) h (w := B.1 i + 1) (A := va_up (B.2.1 i) (B.1 i) j) (T := va_up (B.2.2.1 i) (B.1 i) k) (L := B.2.2.2 i) ⟨by omega, fun m hm => by
      by_cases e : m = B.1 i
      · subst e; rw [va_up_self, va_up_self]; exact ⟨by unfold okF; omega, by unfold okT; omega⟩
      · rw [va_up_ne _ _ e, va_up_ne _ _ e]; exact (h i hi).2.1 m (by omega), (h i hi).2.2⟩
    rw [vu_id B.2.2.2] at this
    exact this
  · exact h
set_option maxRecDepth 20000 in
theorem c_Office_level (G : mz_G) (n : Nat) (f : mz_H) {x y z : Int32} {B : bS} {K : Nat} {sz : Nat → Nat} {cd s : Nat → Nat → Nat} (h : CI f n K sz cd s) (hB : BX f B) (hk : bOk B) :
    mz_Ct G mk_P y_Office_level b_Office_level 4 (some .boolean) (r_Office_level 0 0) [.ref 0, .int x, .int y, .int z] n f (fun v n' f' => v = some (.int (mk_b ((0 ≤ x.toInt ∧ x.toInt < 4) ∧ (0 ≤ y.toInt ∧ y.toInt < 4) ∧ 0 ≤ z.toInt ∧ z.toInt < 4))) ∧ n' = n ∧ CI f' n K sz cd s ∧ FrM f f' ∧ BX f' (lvS B x y z)) := by
  have hr : ∀ B', B' = B → CI f n K sz cd s ∧ FrM f f ∧ BX f B' := fun B' e => ⟨h, fun _ _ => rfl, by rw [e]; exact hB⟩
  obtain ⟨lx, h1, h2, h3, h4, h5, h6, h7⟩ := id h
  have ho := h3.1
  have hb := h3.2.2.1
  refine mk_Ct 0 false [some (.ref 0), some (.int x), some (.int y), some (.int z)] (by decide) rfl (by decide) (Nat.le_of_ble_eq_true rfl) rfl ?_
  refine mz_go [1] 20 ?_
  simp only [mz_r0, mk_lit, mk_fin, mk_cat, mk_fit, mk_nar, mk_cls, mk_ty, mk_isr, List.mem_cons, List.not_mem_nil, or_false, or_true, false_or, true_or, Nat.reduceEqDiff, Nat.reduceAdd, Nat.reduceSub, Nat.reduceLT, Nat.reduceLeDiff, ↓reduceIte, if_true, if_false, List.getElem?_cons_zero, List.getElem?_cons_succ, List.set_cons_zero, List.set_cons_succ, List.length_cons, List.length_nil, mz_s1, mz_s2, mz_cl, true_and, and_true, false_and, and_false, List.append_nil, mk_b0, mk_b1, mk_b2, mk_bn, Value.int.injEq, Option.toList_some, Option.toList_none, List.cons_append, List.nil_append, Classical.not_not, Option.some.injEq, reduceCtorEq, ne_eq, not_true_eq_false, not_false_eq_true, false_implies, true_implies, ev_37, mz_rl d_Office_level_0, nF_0]
  refine mz_callS (by simp only [d_Office_level_1, Nat.reduceAdd]) g_0_84 rfl (fun _ _ h => h) (c_Office_isBoard G mk_P n f x) (by decide) (Nat.le_of_ble_eq_true rfl) rfl ?_; intro v_ n_ f_ h_; obtain ⟨rfl, hn_, hf_⟩ := h_; replace hn_ := hn_.symm; replace hf_ := hf_.symm; subst hn_; subst hf_
  by_cases hx : 0 ≤ x.toInt ∧ x.toInt < 4
  · refine mz_go [8] 20 ?_
    simp only [mz_r0, mk_lit, mk_fin, mk_cat, mk_fit, mk_nar, mk_cls, mk_ty, mk_isr, List.mem_cons, List.not_mem_nil, or_false, or_true, false_or, true_or, Nat.reduceEqDiff, Nat.reduceAdd, Nat.reduceSub, Nat.reduceLT, Nat.reduceLeDiff, ↓reduceIte, if_true, if_false, List.getElem?_cons_zero, List.getElem?_cons_succ, List.set_cons_zero, List.set_cons_succ, List.length_cons, List.length_nil, mz_s1, mz_s2, mz_cl, true_and, and_true, false_and, and_false, List.append_nil, mk_b0, mk_b1, mk_b2, mk_bn, Value.int.injEq, Option.toList_some, Option.toList_none, List.cons_append, List.nil_append, Classical.not_not, Option.some.injEq, reduceCtorEq, ne_eq, not_true_eq_false, not_false_eq_true, false_implies, true_implies, ev_49, ev_37, ev_0, ev_64, mz_rl d_Office_level_4, mz_rl d_Office_level_7, mz_rl d_Office_level_23, mz_rl d_Office_level_24, j_Office_level_4, nF_0, eq_true hx]
    refine mz_callS (by simp only [d_Office_level_8, Nat.reduceAdd]) g_0_100 rfl (fun _ _ h => h) (c_Office_isCounter G mk_P n f y) (by decide) (Nat.le_of_ble_eq_true rfl) rfl ?_; intro v_ n_ f_ h_; obtain ⟨rfl, hn_, hf_⟩ := h_; replace hn_ := hn_.symm; replace hf_ := hf_.symm; subst hn_; subst hf_
    by_cases hy : 0 ≤ y.toInt ∧ y.toInt < 4
    · by_cases hz : 0 ≤ z.toInt ∧ z.toInt < 4
      · obtain ⟨i, hi, rfl⟩ := mk_nat (N := 4) hx.1 hx.2 (by decide)
        obtain ⟨j, hj, rfl⟩ := mk_nat (N := 4) hy.1 hy.2 (by decide)
        obtain ⟨k, hk4, rfl⟩ := mk_nat (N := 4) hz.1 hz.2 (by decide)
        have q1 := hB i hi
        have q2 := hk i hi
        have e1 : ¬ nI k < 0 := by
          show ¬ nI k < nI 0
          rw [nI_ltI (show k < 2 ^ 31 by omega) (by decide)]; omega
        refine mz_go [] 60 ?_
        simp only [mz_r0, mk_lit, mk_fin, mk_cat, mk_fit, mk_nar, mk_cls, mk_ty, mk_isr, List.mem_cons, List.not_mem_nil, or_false, or_true, false_or, true_or, Nat.reduceEqDiff, Nat.reduceAdd, Nat.reduceSub, Nat.reduceLT, Nat.reduceLeDiff, ↓reduceIte, if_true, if_false, List.getElem?_cons_zero, List.getElem?_cons_succ, List.set_cons_zero, List.set_cons_succ, List.length_cons, List.length_nil, mz_s1, mz_s2, mz_cl, true_and, and_true, false_and, and_false, List.append_nil, mk_b0, mk_b1, mk_b2, mk_bn, Value.int.injEq, Option.toList_some, Option.toList_none, List.cons_append, List.nil_append, Classical.not_not, Option.some.injEq, reduceCtorEq, ne_eq, not_true_eq_false, not_false_eq_true, false_implies, true_implies, ev_49, ev_37, ev_53, ev_0, ev_54, ev_64, ev_41, ev_79, ft_0_1, fn_0_1, ev_76, ft_1_2, fn_1_2, ev_72, mz_rl d_Office_level_11, mz_rl d_Office_level_14, mz_rl d_Office_level_15, mz_rl d_Office_level_18, mz_rl d_Office_level_19, mz_rl d_Office_level_20, mz_rl d_Office_level_23, mz_rl d_Office_level_24, mz_rl d_Office_level_25, mz_rl d_Office_level_26, mz_rl d_Office_level_29, mz_rl d_Office_level_30, mz_rl d_Office_level_31, mz_rl d_Office_level_34, mz_rl d_Office_level_35, mz_rl d_Office_level_36, mz_rl d_Office_level_37, mz_rl d_Office_level_38, j_Office_level_11, j_Office_level_15, j_Office_level_20, nF_0, eq_true hy, eq_true hx, eq_true hz, e1, nI_ltI (show k < 2 ^ 31 by omega) (show 4 < 2 ^ 31 by decide), eq_true hk4, ho, hb, vp_in_nI hi (show 4 < 2 ^ 31 by decide), vp_in_nI hj (show 4 < 2 ^ 31 by decide), nI_clamp (show i < 2 ^ 31 by omega), nI_clamp (show j < 2 ^ 31 by omega), boardQ_at hi, va_rf, q1.1, q1.2.2.2, upd_nI]
        have eB : Bd (mz_u f (142 + 4 * i + 3) (aI 4 (fun m => nI (va_up (B.2.2.2 i) j k m)))) (142 + 4 * i) (B.1 i) (B.2.1 i) (B.2.2.1 i) (va_up (B.2.2.2 i) j k) := ⟨by rw [mz_u_n (by omega)]; exact q1.1, by rw [mz_u_n (by omega)]; exact q1.2.1, by rw [mz_u_n (by omega)]; exact q1.2.2.1, mz_u_s _ _ _⟩
        have := CI_bd (F := mz_u f (142 + 4 * i + 3) (aI 4 (fun m => nI (va_up (B.2.2.2 i) j k m)))) h hi eB ⟨q2.1, q2.2.1, fun m hm => by
          by_cases e : m = j
          · subst e; rw [va_up_self]; exact hk4
          · rw [va_up_ne _ _ e]; exact q2.2.2 m hm⟩ (fun q hq => mz_u_n (by omega))
        refine ⟨this.1, this.2, ?_⟩
        have w := BX_set hB eB (fun q hq => mz_u_n (by omega))
        rw [vu_id, vu_id, vu_id] at w
        unfold lvS
        rw [if_pos ⟨hx, hy, hz⟩, nI_clamp (show i < 2 ^ 31 by omega), nI_clamp (show j < 2 ^ 31 by omega), nI_clamp (show k < 2 ^ 31 by omega)]
        exact w
      · by_cases hz0 : z < 0
        · refine mz_go [] 60 ?_
          simp only [mz_r0, mk_lit, mk_fin, mk_cat, mk_fit, mk_nar, mk_cls, mk_ty, mk_isr, List.mem_cons, List.not_mem_nil, or_false, or_true, false_or, true_or, Nat.reduceEqDiff, Nat.reduceAdd, Nat.reduceSub, Nat.reduceLT, Nat.reduceLeDiff, ↓reduceIte, if_true, if_false, List.getElem?_cons_zero, List.getElem?_cons_succ, List.set_cons_zero, List.set_cons_succ, List.length_cons, List.length_nil, mz_s1, mz_s2, mz_cl, true_and, and_true, false_and, and_false, List.append_nil, mk_b0, mk_b1, mk_b2, mk_bn, Value.int.injEq, Option.toList_some, Option.toList_none, List.cons_append, List.nil_append, Classical.not_not, Option.some.injEq, reduceCtorEq, ne_eq, not_true_eq_false, not_false_eq_true, false_implies, true_implies, ev_49, ev_37, ev_53, ev_0, ev_54, ev_64, ev_41, ev_79, ft_0_1, fn_0_1, ev_76, ft_1_2, fn_1_2, ev_72, mz_rl d_Office_level_11, mz_rl d_Office_level_14, mz_rl d_Office_level_15, mz_rl d_Office_level_18, mz_rl d_Office_level_19, mz_rl d_Office_level_20, mz_rl d_Office_level_23, mz_rl d_Office_level_24, mz_rl d_Office_level_25, mz_rl d_Office_level_26, mz_rl d_Office_level_29, mz_rl d_Office_level_30, mz_rl d_Office_level_31, mz_rl d_Office_level_34, mz_rl d_Office_level_35, mz_rl d_Office_level_36, mz_rl d_Office_level_37, mz_rl d_Office_level_38, j_Office_level_11, j_Office_level_15, j_Office_level_20, nF_0, eq_true hy, eq_true hx, eq_false hz, eq_true hz0]
          exact hr _ (if_neg (fun q => hz q.2.2))
        · have hz4 : ¬ z < nI 4 := fun q => hz ⟨by
              have q0 : ¬ z.toInt < (0 : Int32).toInt := fun w => hz0 (Int32.lt_iff_toInt_lt.mpr w)
              have q1 : (0 : Int32).toInt = 0 := rfl
              omega, by
              have q0 := Int32.lt_iff_toInt_lt.mp q
              have q1 : (nI 4).toInt = 4 := rfl
              omega⟩
          refine mz_go [] 60 ?_
          simp only [mz_r0, mk_lit, mk_fin, mk_cat, mk_fit, mk_nar, mk_cls, mk_ty, mk_isr, List.mem_cons, List.not_mem_nil, or_false, or_true, false_or, true_or, Nat.reduceEqDiff, Nat.reduceAdd, Nat.reduceSub, Nat.reduceLT, Nat.reduceLeDiff, ↓reduceIte, if_true, if_false, List.getElem?_cons_zero, List.getElem?_cons_succ, List.set_cons_zero, List.set_cons_succ, List.length_cons, List.length_nil, mz_s1, mz_s2, mz_cl, true_and, and_true, false_and, and_false, List.append_nil, mk_b0, mk_b1, mk_b2, mk_bn, Value.int.injEq, Option.toList_some, Option.toList_none, List.cons_append, List.nil_append, Classical.not_not, Option.some.injEq, reduceCtorEq, ne_eq, not_true_eq_false, not_false_eq_true, false_implies, true_implies, ev_49, ev_37, ev_53, ev_0, ev_54, ev_64, ev_41, ev_79, ft_0_1, fn_0_1, ev_76, ft_1_2, fn_1_2, ev_72, mz_rl d_Office_level_11, mz_rl d_Office_level_14, mz_rl d_Office_level_15, mz_rl d_Office_level_18, mz_rl d_Office_level_19, mz_rl d_Office_level_20, mz_rl d_Office_level_23, mz_rl d_Office_level_24, mz_rl d_Office_level_25, mz_rl d_Office_level_26, mz_rl d_Office_level_29, mz_rl d_Office_level_30, mz_rl d_Office_level_31, mz_rl d_Office_level_34, mz_rl d_Office_level_35, mz_rl d_Office_level_36, mz_rl d_Office_level_37, mz_rl d_Office_level_38, j_Office_level_11, j_Office_level_15, j_Office_level_20, nF_0, eq_true hy, eq_true hx, eq_false hz, eq_false hz0, eq_false hz4]
          exact hr _ (if_neg (fun q => hz q.2.2))
    · refine mz_go [] 20 ?_
      simp only [mz_r0, mk_lit, mk_fin, mk_cat, mk_fit, mk_nar, mk_cls, mk_ty, mk_isr, List.mem_cons, List.not_mem_nil, or_false, or_true, false_or, true_or, Nat.reduceEqDiff, Nat.reduceAdd, Nat.reduceSub, Nat.reduceLT, Nat.reduceLeDiff, ↓reduceIte, if_true, if_false, List.getElem?_cons_zero, List.getElem?_cons_succ, List.set_cons_zero, List.set_cons_succ, List.length_cons, List.length_nil, mz_s1, mz_s2, mz_cl, true_and, and_true, false_and, and_false, List.append_nil, mk_b0, mk_b1, mk_b2, mk_bn, Value.int.injEq, Option.toList_some, Option.toList_none, List.cons_append, List.nil_append, Classical.not_not, Option.some.injEq, reduceCtorEq, ne_eq, not_true_eq_false, not_false_eq_true, false_implies, true_implies, ev_49, ev_37, ev_53, ev_0, ev_54, ev_64, ev_41, ev_79, ft_0_1, fn_0_1, ev_76, ft_1_2, fn_1_2, ev_72, mz_rl d_Office_level_11, mz_rl d_Office_level_14, mz_rl d_Office_level_15, mz_rl d_Office_level_18, mz_rl d_Office_level_19, mz_rl d_Office_level_20, mz_rl d_Office_level_23, mz_rl d_Office_level_24, mz_rl d_Office_level_25, mz_rl d_Office_level_26, mz_rl d_Office_level_29, mz_rl d_Office_level_30, mz_rl d_Office_level_31, mz_rl d_Office_level_34, mz_rl d_Office_level_35, mz_rl d_Office_level_36, mz_rl d_Office_level_37, mz_rl d_Office_level_38, j_Office_level_11, j_Office_level_15, j_Office_level_20, nF_0, eq_false hy, eq_true hx]
      exact hr _ (if_neg (fun q => hy q.2.1))
  · refine mz_go [] 20 ?_
    simp only [mz_r0, mk_lit, mk_fin, mk_cat, mk_fit, mk_nar, mk_cls, mk_ty, mk_isr, List.mem_cons, List.not_mem_nil, or_false, or_true, false_or, true_or, Nat.reduceEqDiff, Nat.reduceAdd, Nat.reduceSub, Nat.reduceLT, Nat.reduceLeDiff, ↓reduceIte, if_true, if_false, List.getElem?_cons_zero, List.getElem?_cons_succ, List.set_cons_zero, List.set_cons_succ, List.length_cons, List.length_nil, mz_s1, mz_s2, mz_cl, true_and, and_true, false_and, and_false, List.append_nil, mk_b0, mk_b1, mk_b2, mk_bn, Value.int.injEq, Option.toList_some, Option.toList_none, List.cons_append, List.nil_append, Classical.not_not, Option.some.injEq, reduceCtorEq, ne_eq, not_true_eq_false, not_false_eq_true, false_implies, true_implies, ev_49, ev_37, ev_0, ev_64, mz_rl d_Office_level_4, mz_rl d_Office_level_7, mz_rl d_Office_level_8, mz_rl d_Office_level_23, mz_rl d_Office_level_24, j_Office_level_4, nF_0, eq_false hx]
    exact hr _ (if_neg (fun q => hx q.1))
end
section
set_option maxRecDepth 20000 in
theorem c_Office_strip (G : mz_G) (n : Nat) (f : mz_H) {x : Int32} {B : bS} {K : Nat} {sz : Nat → Nat} {cd s : Nat → Nat → Nat} (h : CI f n K sz cd s) (hB : BX f B) (hk : bOk B) :
    mz_Ct G mk_P y_Office_strip b_Office_strip 2 (some .int) (r_Office_strip 0 0) [.ref 0, .int x] n f (fun v n' f' => v = some (.int (stO B x)) ∧ n' = n ∧ CI f' n K sz cd s ∧ FrM f f' ∧ BX f' (stS B x)) := by
  obtain ⟨lx, h1, h2, h3, h4, h5, h6, h7⟩ := id h
  have ho := h3.1
  have hb := h3.2.2.1
  refine mk_Ct 0 false [some (.ref 0), some (.int x)] (by decide) rfl (by decide) (Nat.le_of_ble_eq_true rfl) rfl ?_
  refine mz_go [1] 20 ?_
  simp only [mz_r0, mk_lit, mk_fin, mk_cat, mk_fit, mk_nar, mk_cls, mk_ty, mk_isr, List.mem_cons, List.not_mem_nil, or_false, or_true, false_or, true_or, Nat.reduceEqDiff, Nat.reduceAdd, Nat.reduceSub, Nat.reduceLT, Nat.reduceLeDiff, ↓reduceIte, if_true, if_false, List.getElem?_cons_zero, List.getElem?_cons_succ, List.set_cons_zero, List.set_cons_succ, List.length_cons, List.length_nil, mz_s1, mz_s2, mz_cl, true_and, and_true, false_and, and_false, List.append_nil, mk_b0, mk_b1, mk_b2, mk_bn, Value.int.injEq, Option.toList_some, Option.toList_none, List.cons_append, List.nil_append, Classical.not_not, Option.some.injEq, reduceCtorEq, ne_eq, not_true_eq_false, not_false_eq_true, false_implies, true_implies, ev_37, mz_rl d_Office_strip_0, nF_0]
  refine mz_callS (by simp only [d_Office_strip_1, Nat.reduceAdd]) g_0_84 rfl (fun _ _ h => h) (c_Office_isBoard G mk_P n f x) (by decide) (Nat.le_of_ble_eq_true rfl) rfl ?_; intro v_ n_ f_ h_; obtain ⟨rfl, hn_, hf_⟩ := h_; replace hn_ := hn_.symm; replace hf_ := hf_.symm; subst hn_; subst hf_
  by_cases hx : 0 ≤ x.toInt ∧ x.toInt < 4
  · obtain ⟨i, hi, rfl⟩ := mk_nat (N := 4) hx.1 hx.2 (by decide)
    have q1 := hB i hi
    have q2 := hk i hi
    refine mz_go [15] 20 ?_
    simp only [mz_r0, mk_lit, mk_fin, mk_cat, mk_fit, mk_nar, mk_cls, mk_ty, mk_isr, List.mem_cons, List.not_mem_nil, or_false, or_true, false_or, true_or, Nat.reduceEqDiff, Nat.reduceAdd, Nat.reduceSub, Nat.reduceLT, Nat.reduceLeDiff, ↓reduceIte, if_true, if_false, List.getElem?_cons_zero, List.getElem?_cons_succ, List.set_cons_zero, List.set_cons_succ, List.length_cons, List.length_nil, mz_s1, mz_s2, mz_cl, true_and, and_true, false_and, and_false, List.append_nil, mk_b0, mk_b1, mk_b2, mk_bn, Value.int.injEq, Option.toList_some, Option.toList_none, List.cons_append, List.nil_append, Classical.not_not, Option.some.injEq, reduceCtorEq, ne_eq, not_true_eq_false, not_false_eq_true, false_implies, true_implies, ev_51, ev_0, ev_64, ev_41, ev_79, ft_0_1, fn_0_1, ev_37, ev_76, mz_rl d_Office_strip_4, mz_rl d_Office_strip_7, mz_rl d_Office_strip_8, mz_rl d_Office_strip_9, mz_rl d_Office_strip_10, mz_rl d_Office_strip_13, mz_rl d_Office_strip_14, j_Office_strip_4, nF_0, eq_true hx, ho, hb, vp_in_nI hi (show 4 < 2 ^ 31 by decide), nI_clamp (show i < 2 ^ 31 by omega), boardQ_at hi, va_rf]
    refine mz_callV (by simp only [d_Office_strip_15, Nat.reduceAdd]) g_0_97 rfl (fun _ _ h => h) (c_Board_makeBare G mk_P n f q1) q1.1 rfl rfl (by decide) (Nat.le_of_ble_eq_true rfl) rfl ?_; intro v_ n_ f_ h_; obtain ⟨rfl, hn_, hf_⟩ := h_; replace hn_ := hn_.symm; replace hf_ := hf_.symm; subst hn_; subst hf_
    refine mz_go [] 20 ?_
    simp only [mz_r0, mk_lit, mk_fin, mk_cat, mk_fit, mk_nar, mk_cls, mk_ty, mk_isr, List.mem_cons, List.not_mem_nil, or_false, or_true, false_or, true_or, Nat.reduceEqDiff, Nat.reduceAdd, Nat.reduceSub, Nat.reduceLT, Nat.reduceLeDiff, ↓reduceIte, if_true, if_false, List.getElem?_cons_zero, List.getElem?_cons_succ, List.set_cons_zero, List.set_cons_succ, List.length_cons, List.length_nil, mz_s1, mz_s2, mz_cl, true_and, and_true, false_and, and_false, List.append_nil, mk_b0, mk_b1, mk_b2, mk_bn, Value.int.injEq, Option.toList_some, Option.toList_none, List.cons_append, List.nil_append, Classical.not_not, Option.some.injEq, reduceCtorEq, ne_eq, not_true_eq_false, not_false_eq_true, false_implies, true_implies, ev_64, mz_rl d_Office_strip_18, nF_0]
    have eB : Bd (bdBare f (142 + 4 * i) (B.2.2.2 i)) (142 + 4 * i) 0 (B.2.1 i) (B.2.2.1 i) (cpy (fun _ => 3) (B.2.2.2 i) 4) := by
      refine ⟨?_, ?_, ?_, ?_⟩
      · unfold bdBare; rw [mz_u_n (by omega), mz_u_s]
      · unfold bdBare; rw [mz_u_n (by omega), mz_u_n (by omega)]; exact q1.2.1
      · unfold bdBare; rw [mz_u_n (by omega), mz_u_n (by omega)]; exact q1.2.2.1
      · unfold bdBare; exact mz_u_s _ _ _
    have eF : ∀ q, (q < 142 + 4 * i ∨ 145 + 4 * i < q) → bdBare f (142 + 4 * i) (B.2.2.2 i) q = f q := fun q hq => by
      unfold bdBare; rw [mz_u_n (by omega), mz_u_n (by omega)]
    have := CI_bd h hi eB ⟨by decide, fun j hj => absurd hj (by omega), fun j hj => by rw [cpy_lt hj]; decide⟩ eF
    have w := BX_set hB eB eF
    rw [vu_id, vu_id] at w
    refine ⟨?_, this.1, this.2, ?_⟩
    · unfold stO; rw [if_pos hx, nI_clamp (show i < 2 ^ 31 by omega)]
    · unfold stS; rw [if_pos hx, nI_clamp (show i < 2 ^ 31 by omega)]; exact w
  · refine mz_go [] 20 ?_
    simp only [mz_r0, mk_lit, mk_fin, mk_cat, mk_fit, mk_nar, mk_cls, mk_ty, mk_isr, List.mem_cons, List.not_mem_nil, or_false, or_true, false_or, true_or, Nat.reduceEqDiff, Nat.reduceAdd, Nat.reduceSub, Nat.reduceLT, Nat.reduceLeDiff, ↓reduceIte, if_true, if_false, List.getElem?_cons_zero, List.getElem?_cons_succ, List.set_cons_zero, List.set_cons_succ, List.length_cons, List.length_nil, mz_s1, mz_s2, mz_cl, true_and, and_true, false_and, and_false, List.append_nil, mk_b0, mk_b1, mk_b2, mk_bn, Value.int.injEq, Option.toList_some, Option.toList_none, List.cons_append, List.nil_append, Classical.not_not, Option.some.injEq, reduceCtorEq, ne_eq, not_true_eq_false, not_false_eq_true, false_implies, true_implies, ev_51, ev_0, ev_64, ev_41, ev_79, ft_0_1, fn_0_1, ev_37, ev_76, mz_rl d_Office_strip_4, mz_rl d_Office_strip_7, mz_rl d_Office_strip_8, mz_rl d_Office_strip_9, mz_rl d_Office_strip_10, mz_rl d_Office_strip_13, mz_rl d_Office_strip_14, mz_rl d_Office_strip_15, j_Office_strip_4, nF_0, eq_false hx]
    refine ⟨?_, h, fun _ _ => rfl, ?_⟩
    · unfold stO; rw [if_neg hx]
    · unfold stS; rw [if_neg hx]; exact hB
set_option maxRecDepth 20000 in
theorem c_Office_wire (G : mz_G) (n : Nat) (f : mz_H) {x y z : Int32} {B : bS} {K : Nat} {sz : Nat → Nat} {cd s : Nat → Nat → Nat} (h : CI f n K sz cd s) (hB : BX f B) (hk : bOk B) :
    mz_Ct G mk_P y_Office_wire b_Office_wire 4 (some .boolean) (r_Office_wire 0 0) [.ref 0, .int x, .int y, .int z] n f (fun v n' f' => v = some (.int (mk_b (wrO B x y z = true))) ∧ n' = n ∧ CI f' n K sz cd s ∧ FrM f f' ∧ BX f' (wrS B x y z)) := by
  have hr : wrO B x y z = false → nI 0 = mk_b (wrO B x y z = true) ∧ CI f n K sz cd s ∧ FrM f f ∧ BX f (wrS B x y z) := fun e => ⟨by rw [e]; rfl, h, fun _ _ => rfl, by unfold wrS; rw [e]; exact hB⟩
  obtain ⟨lx, h1, h2, h3, h4, h5, h6, h7⟩ := id h
  have ho := h3.1
  have hb := h3.2.2.1
  refine mk_Ct 0 false [some (.ref 0), some (.int x), some (.int y), some (.int z)] (by decide) rfl (by decide) (Nat.le_of_ble_eq_true rfl) rfl ?_
  refine mz_go [1] 20 ?_
  simp only [mz_r0, mk_lit, mk_fin, mk_cat, mk_fit, mk_nar, mk_cls, mk_ty, mk_isr, List.mem_cons, List.not_mem_nil, or_false, or_true, false_or, true_or, Nat.reduceEqDiff, Nat.reduceAdd, Nat.reduceSub, Nat.reduceLT, Nat.reduceLeDiff, ↓reduceIte, if_true, if_false, List.getElem?_cons_zero, List.getElem?_cons_succ, List.set_cons_zero, List.set_cons_succ, List.length_cons, List.length_nil, mz_s1, mz_s2, mz_cl, true_and, and_true, false_and, and_false, List.append_nil, mk_b0, mk_b1, mk_b2, mk_bn, Value.int.injEq, Option.toList_some, Option.toList_none, List.cons_append, List.nil_append, Classical.not_not, Option.some.injEq, reduceCtorEq, ne_eq, not_true_eq_false, not_false_eq_true, false_implies, true_implies, ev_37, mz_rl d_Office_wire_0, nF_0]
  refine mz_callS (by simp only [d_Office_wire_1, Nat.reduceAdd]) g_0_84 rfl (fun _ _ h => h) (c_Office_isBoard G mk_P n f x) (by decide) (Nat.le_of_ble_eq_true rfl) rfl ?_; intro v_ n_ f_ h_; obtain ⟨rfl, hn_, hf_⟩ := h_; replace hn_ := hn_.symm; replace hf_ := hf_.symm; subst hn_; subst hf_
  by_cases hx : 0 ≤ x.toInt ∧ x.toInt < 4
  · refine mz_go [8] 20 ?_
    simp only [mz_r0, mk_lit, mk_fin, mk_cat, mk_fit, mk_nar, mk_cls, mk_ty, mk_isr, List.mem_cons, List.not_mem_nil, or_false, or_true, false_or, true_or, Nat.reduceEqDiff, Nat.reduceAdd, Nat.reduceSub, Nat.reduceLT, Nat.reduceLeDiff, ↓reduceIte, if_true, if_false, List.getElem?_cons_zero, List.getElem?_cons_succ, List.set_cons_zero, List.set_cons_succ, List.length_cons, List.length_nil, mz_s1, mz_s2, mz_cl, true_and, and_true, false_and, and_false, List.append_nil, mk_b0, mk_b1, mk_b2, mk_bn, Value.int.injEq, Option.toList_some, Option.toList_none, List.cons_append, List.nil_append, Classical.not_not, Option.some.injEq, reduceCtorEq, ne_eq, not_true_eq_false, not_false_eq_true, false_implies, true_implies, ev_49, ev_37, ev_0, ev_64, mz_rl d_Office_wire_4, mz_rl d_Office_wire_7, mz_rl d_Office_wire_21, mz_rl d_Office_wire_22, j_Office_wire_4, nF_0, eq_true hx]
    refine mz_callS (by simp only [d_Office_wire_8, Nat.reduceAdd]) g_0_87 rfl (fun _ _ h => h) (c_Office_isFromJack G mk_P n f y) (by decide) (Nat.le_of_ble_eq_true rfl) rfl ?_; intro v_ n_ f_ h_; obtain ⟨rfl, hn_, hf_⟩ := h_; replace hn_ := hn_.symm; replace hf_ := hf_.symm; subst hn_; subst hf_
    by_cases hy : 0 ≤ y.toInt ∧ y.toInt < 26 ∨ 32 ≤ y.toInt ∧ y.toInt < 56
    · refine mz_go [15] 20 ?_
      simp only [mz_r0, mk_lit, mk_fin, mk_cat, mk_fit, mk_nar, mk_cls, mk_ty, mk_isr, List.mem_cons, List.not_mem_nil, or_false, or_true, false_or, true_or, Nat.reduceEqDiff, Nat.reduceAdd, Nat.reduceSub, Nat.reduceLT, Nat.reduceLeDiff, ↓reduceIte, if_true, if_false, List.getElem?_cons_zero, List.getElem?_cons_succ, List.set_cons_zero, List.set_cons_succ, List.length_cons, List.length_nil, mz_s1, mz_s2, mz_cl, true_and, and_true, false_and, and_false, List.append_nil, mk_b0, mk_b1, mk_b2, mk_bn, Value.int.injEq, Option.toList_some, Option.toList_none, List.cons_append, List.nil_append, Classical.not_not, Option.some.injEq, reduceCtorEq, ne_eq, not_true_eq_false, not_false_eq_true, false_implies, true_implies, ev_49, ev_37, ev_0, ev_64, mz_rl d_Office_wire_11, mz_rl d_Office_wire_14, mz_rl d_Office_wire_21, mz_rl d_Office_wire_22, j_Office_wire_11, nF_0, eq_true hy]
      refine mz_callS (by simp only [d_Office_wire_15, Nat.reduceAdd]) g_0_90 rfl (fun _ _ h => h) (c_Office_isToJack G mk_P n f z) (by decide) (Nat.le_of_ble_eq_true rfl) rfl ?_; intro v_ n_ f_ h_; obtain ⟨rfl, hn_, hf_⟩ := h_; replace hn_ := hn_.symm; replace hf_ := hf_.symm; subst hn_; subst hf_
      by_cases hz : (0 ≤ z.toInt ∧ z.toInt < 16) ∨ 32 ≤ z.toInt ∧ z.toInt < 56 ∨ 64 ≤ z.toInt ∧ z.toInt < 88 ∨ 96 ≤ z.toInt ∧ z.toInt < 100
      · obtain ⟨i, hi, rfl⟩ := mk_nat (N := 4) hx.1 hx.2 (by decide)
        obtain ⟨j, hj, rfl⟩ := mk_nat (x := y) (N := 56) (by omega) (by omega) (by decide)
        obtain ⟨k, hk9, rfl⟩ := mk_nat (x := z) (N := 100) (by omega) (by omega) (by decide)
        have q1 := hB i hi
        have q2 := hk i hi
        have hy9 := hy
        have hz9 := hz
        rw [mk_nti (show j < 2 ^ 31 by omega)] at hy
        rw [mk_nti (show k < 2 ^ 31 by omega)] at hz
        have oj : okF j := by unfold okF; omega
        have ok' : okT k := by unfold okT; omega
        refine mz_go [31] 20 ?_
        simp only [mz_r0, mk_lit, mk_fin, mk_cat, mk_fit, mk_nar, mk_cls, mk_ty, mk_isr, List.mem_cons, List.not_mem_nil, or_false, or_true, false_or, true_or, Nat.reduceEqDiff, Nat.reduceAdd, Nat.reduceSub, Nat.reduceLT, Nat.reduceLeDiff, ↓reduceIte, if_true, if_false, List.getElem?_cons_zero, List.getElem?_cons_succ, List.set_cons_zero, List.set_cons_succ, List.length_cons, List.length_nil, mz_s1, mz_s2, mz_cl, true_and, and_true, false_and, and_false, List.append_nil, mk_b0, mk_b1, mk_b2, mk_bn, Value.int.injEq, Option.toList_some, Option.toList_none, List.cons_append, List.nil_append, Classical.not_not, Option.some.injEq, reduceCtorEq, ne_eq, not_true_eq_false, not_false_eq_true, false_implies, true_implies, ev_51, ev_0, ev_64, ev_41, ev_79, ft_0_1, fn_0_1, ev_37, ev_76, mz_rl d_Office_wire_18, mz_rl d_Office_wire_21, mz_rl d_Office_wire_22, mz_rl d_Office_wire_23, mz_rl d_Office_wire_24, mz_rl d_Office_wire_27, mz_rl d_Office_wire_28, mz_rl d_Office_wire_29, mz_rl d_Office_wire_30, j_Office_wire_18, nF_0, mk_nti (show k < 2 ^ 31 by omega), eq_true hz, ho, hb, vp_in_nI hi (show 4 < 2 ^ 31 by decide), nI_clamp (show i < 2 ^ 31 by omega), boardQ_at hi, va_rf]
        refine mz_callV (by simp only [d_Office_wire_31, Nat.reduceAdd]) g_0_93 rfl (fun _ _ h => h) (c_Board_addWire G mk_P n f (x := j) (y := k) q1 q2 (show j < 2 ^ 31 by omega) (show k < 2 ^ 31 by omega)) q1.1 rfl rfl (by decide) (Nat.le_of_ble_eq_true rfl) rfl ?_; intro v_ n_ f_ h_; obtain ⟨rfl, hn_, hf_⟩ := h_; replace hn_ := hn_.symm; replace hf_ := hf_.symm; subst hn_; subst hf_
        refine mz_go [] 20 ?_
        simp only [mz_r0, mk_lit, mk_fin, mk_cat, mk_fit, mk_nar, mk_cls, mk_ty, mk_isr, List.mem_cons, List.not_mem_nil, or_false, or_true, false_or, true_or, Nat.reduceEqDiff, Nat.reduceAdd, Nat.reduceSub, Nat.reduceLT, Nat.reduceLeDiff, ↓reduceIte, if_true, if_false, List.getElem?_cons_zero, List.getElem?_cons_succ, List.set_cons_zero, List.set_cons_succ, List.length_cons, List.length_nil, mz_s1, mz_s2, mz_cl, true_and, and_true, false_and, and_false, List.append_nil, mk_b0, mk_b1, mk_b2, mk_bn, Value.int.injEq, Option.toList_some, Option.toList_none, List.cons_append, List.nil_append, Classical.not_not, Option.some.injEq, reduceCtorEq, ne_eq, not_true_eq_false, not_false_eq_true, false_implies, true_implies, ev_64, mz_rl d_Office_wire_34, nF_0]
        have eO : wrO B (nI i) (nI j) (nI k) = decide (B.1 i < 40 ∧ hwB (B.2.1 i) (B.2.2.1 i) j k 0 (B.1 i) = false) := by
          unfold wrO
          rw [nI_clamp (show i < 2 ^ 31 by omega), nI_clamp (show j < 2 ^ 31 by omega), nI_clamp (show k < 2 ^ 31 by omega)]
          exact decide_eq_decide.mpr ⟨fun q => q.2.2.2, fun q => ⟨hx, hy9, hz9, q⟩⟩
        by_cases hc : B.1 i < 40 ∧ hwB (B.2.1 i) (B.2.2.1 i) j k 0 (B.1 i) = false
        · rw [if_pos hc]
          have eT : wrO B (nI i) (nI j) (nI k) = true := by rw [eO]; exact decide_eq_true hc
          have eB : Bd (bdAdd f (142 + 4 * i) (B.1 i) j k (B.2.1 i) (B.2.2.1 i)) (142 + 4 * i) (B.1 i + 1) (va_up (B.2.1 i) (B.1 i) j) (va_up (B.2.2.1 i) (B.1 i) k) (B.2.2.2 i) := by
            refine ⟨?_, ?_, ?_, ?_⟩
            · unfold bdAdd; exact mz_u_s _ _ _
            · unfold bdAdd; rw [mz_u_n (by omega), mz_u_n (by omega)]; exact mz_u_s _ _ _
            · unfold bdAdd; rw [mz_u_n (by omega)]; exact mz_u_s _ _ _
            · unfold bdAdd; rw [mz_u_n (by omega), mz_u_n (by omega), mz_u_n (by omega)]; exact q1.2.2.2
          have eF : ∀ q, (q < 142 + 4 * i ∨ 145 + 4 * i < q) → bdAdd f (142 + 4 * i) (B.1 i) j k (B.2.1 i) (B.2.2.1 i) q = f q := fun q hq => by
            unfold bdAdd; rw [mz_u_n (by omega), mz_u_n (by omega), mz_u_n (by omega)]
          have := CI_bd h hi eB ⟨by omega, fun m hm => by
            by_cases e : m = B.1 i
            · subst e; rw [va_up_self, va_up_self]; exact ⟨oj, ok'⟩
            · rw [va_up_ne _ _ e, va_up_ne _ _ e]; exact q2.2.1 m (by omega), q2.2.2⟩ eF
          have w := BX_set hB eB eF
          rw [vu_id B.2.2.2] at w
          refine ⟨by rw [mk_b_t hc, mk_b_t eT], this.1, this.2, ?_⟩
          unfold wrS
          rw [if_pos eT, nI_clamp (show i < 2 ^ 31 by omega), nI_clamp (show j < 2 ^ 31 by omega), nI_clamp (show k < 2 ^ 31 by omega)]
          exact w
        · rw [if_neg hc]
          have w := hr (by rw [eO]; exact decide_eq_false hc)
          rw [mk_b_f hc]
          exact w
      · refine mz_go [] 20 ?_
        simp only [mz_r0, mk_lit, mk_fin, mk_cat, mk_fit, mk_nar, mk_cls, mk_ty, mk_isr, List.mem_cons, List.not_mem_nil, or_false, or_true, false_or, true_or, Nat.reduceEqDiff, Nat.reduceAdd, Nat.reduceSub, Nat.reduceLT, Nat.reduceLeDiff, ↓reduceIte, if_true, if_false, List.getElem?_cons_zero, List.getElem?_cons_succ, List.set_cons_zero, List.set_cons_succ, List.length_cons, List.length_nil, mz_s1, mz_s2, mz_cl, true_and, and_true, false_and, and_false, List.append_nil, mk_b0, mk_b1, mk_b2, mk_bn, Value.int.injEq, Option.toList_some, Option.toList_none, List.cons_append, List.nil_append, Classical.not_not, Option.some.injEq, reduceCtorEq, ne_eq, not_true_eq_false, not_false_eq_true, false_implies, true_implies, ev_51, ev_0, ev_64, ev_41, ev_79, ft_0_1, fn_0_1, ev_37, ev_76, mz_rl d_Office_wire_18, mz_rl d_Office_wire_21, mz_rl d_Office_wire_22, mz_rl d_Office_wire_23, mz_rl d_Office_wire_24, mz_rl d_Office_wire_27, mz_rl d_Office_wire_28, mz_rl d_Office_wire_29, mz_rl d_Office_wire_30, mz_rl d_Office_wire_31, j_Office_wire_18, nF_0, eq_false hz]
        exact ⟨fun z' => absurd ((decide_eq_false (fun q => hz q.2.2.1) : wrO B x y z = false).symm.trans z') (by decide), (hr (decide_eq_false (fun q => hz q.2.2.1))).2⟩
    · refine mz_go [] 20 ?_
      simp only [mz_r0, mk_lit, mk_fin, mk_cat, mk_fit, mk_nar, mk_cls, mk_ty, mk_isr, List.mem_cons, List.not_mem_nil, or_false, or_true, false_or, true_or, Nat.reduceEqDiff, Nat.reduceAdd, Nat.reduceSub, Nat.reduceLT, Nat.reduceLeDiff, ↓reduceIte, if_true, if_false, List.getElem?_cons_zero, List.getElem?_cons_succ, List.set_cons_zero, List.set_cons_succ, List.length_cons, List.length_nil, mz_s1, mz_s2, mz_cl, true_and, and_true, false_and, and_false, List.append_nil, mk_b0, mk_b1, mk_b2, mk_bn, Value.int.injEq, Option.toList_some, Option.toList_none, List.cons_append, List.nil_append, Classical.not_not, Option.some.injEq, reduceCtorEq, ne_eq, not_true_eq_false, not_false_eq_true, false_implies, true_implies, ev_49, ev_37, ev_0, ev_64, mz_rl d_Office_wire_11, mz_rl d_Office_wire_14, mz_rl d_Office_wire_15, mz_rl d_Office_wire_21, mz_rl d_Office_wire_22, j_Office_wire_11, nF_0, eq_false hy]
      exact ⟨fun z' => absurd ((decide_eq_false (fun q => hy q.2.1) : wrO B x y z = false).symm.trans z') (by decide), (hr (decide_eq_false (fun q => hy q.2.1))).2⟩
  · refine mz_go [] 20 ?_
    simp only [mz_r0, mk_lit, mk_fin, mk_cat, mk_fit, mk_nar, mk_cls, mk_ty, mk_isr, List.mem_cons, List.not_mem_nil, or_false, or_true, false_or, true_or, Nat.reduceEqDiff, Nat.reduceAdd, Nat.reduceSub, Nat.reduceLT, Nat.reduceLeDiff, ↓reduceIte, if_true, if_false, List.getElem?_cons_zero, List.getElem?_cons_succ, List.set_cons_zero, List.set_cons_succ, List.length_cons, List.length_nil, mz_s1, mz_s2, mz_cl, true_and, and_true, false_and, and_false, List.append_nil, mk_b0, mk_b1, mk_b2, mk_bn, Value.int.injEq, Option.toList_some, Option.toList_none, List.cons_append, List.nil_append, Classical.not_not, Option.some.injEq, reduceCtorEq, ne_eq, not_true_eq_false, not_false_eq_true, false_implies, true_implies, ev_49, ev_37, ev_0, ev_64, mz_rl d_Office_wire_4, mz_rl d_Office_wire_7, mz_rl d_Office_wire_8, mz_rl d_Office_wire_21, mz_rl d_Office_wire_22, j_Office_wire_4, nF_0, eq_false hx]
    exact ⟨fun z' => absurd ((decide_eq_false (fun q => hx q.1) : wrO B x y z = false).symm.trans z') (by decide), (hr (decide_eq_false (fun q => hx q.1))).2⟩
end
section
theorem th_fits : ∀ n ∈ th_up, Bundle.fit n = true := by decide +kernel
def okCo (x : Int32) : Prop := 0 ≤ x.toInt ∧ x.toInt < 4
def coP (f : mz_H) (n K : Nat) (sz : Nat → Nat) (cd s : Nat → Nat → Nat) (u : tT) (x : Int32) (v : Option Value) (n' : Nat) (f' : mz_H) : Prop := (∃ i, i < 4 ∧ x = nI i ∧ v = some (.int (nI (u.1 i)))) ∧ n' = n ∧ CI f' n K sz cd s ∧ FrB f f' ∧ MU f f' no_U
set_option maxRecDepth 20000 in
theorem x_Office_counter (G : mz_G) (hfl : G.1.flags = pinnedFlags ++ [noTraceFlag]) (n : Nat) (f : mz_H) {x : Int32} {K : Nat} {sz : Nat → Nat} {cd s : Nat → Nat → Nat} (h : CI f n K sz cd s) {u : tT} (hX : TT f u) :
    mz_X G mk_P 0 false b_Office_counter 2 (some .int) (r_Office_counter 1 6) (coP f n K sz cd s u x) (fun ec n' f' => ec = "java/lang/IndexOutOfBoundsException" ∧ n' = n ∧ f' = f ∧ ¬ okCo x) 0 [some (.ref 0), some (.int x)] [] 0 0 n f := by
  obtain ⟨lx, h1, h2, h3, h4, h5, h6, h7⟩ := id h
  have ho := h3.1
  have h16 := h4.1
  have k7 := hX.1
  refine mz_go [1] 20 ?_
  simp only [mz_r0, mk_lit, mk_fin, mk_cat, mk_fit, mk_nar, mk_cls, mk_ty, mk_isr, List.mem_cons, List.not_mem_nil, or_false, or_true, false_or, true_or, Nat.reduceEqDiff, Nat.reduceAdd, Nat.reduceSub, Nat.reduceLT, Nat.reduceLeDiff, ↓reduceIte, if_true, if_false, List.getElem?_cons_zero, List.getElem?_cons_succ, List.set_cons_zero, List.set_cons_succ, List.length_cons, List.length_nil, mz_s1, mz_s2, mz_cl, true_and, and_true, false_and, and_false, List.append_nil, mk_b0, mk_b1, mk_b2, mk_bn, Value.int.injEq, Option.toList_some, Option.toList_none, List.cons_append, List.nil_append, Classical.not_not, Option.some.injEq, reduceCtorEq, ne_eq, not_true_eq_false, not_false_eq_true, false_implies, true_implies, ev_37, mz_rl d_Office_counter_0, nF_0]
  refine mz_callS (by simp only [d_Office_counter_1, Nat.reduceAdd]) g_0_100 rfl (fun _ _ h => h) (c_Office_isCounter G mk_P n f x) (by decide) (Nat.le_of_ble_eq_true rfl) rfl ?_; intro v_ n_ f_ h_; obtain ⟨rfl, hn_, hf_⟩ := h_; replace hn_ := hn_.symm; replace hf_ := hf_.symm; subst hn_; subst hf_
  by_cases hx : 0 ≤ x.toInt ∧ x.toInt < 4
  · obtain ⟨i, hi, rfl⟩ := mk_nat (N := 4) hx.1 hx.2 (by decide)
    refine mz_go [] 20 ?_
    simp only [mz_r0, mk_lit, mk_fin, mk_cat, mk_fit, mk_nar, mk_cls, mk_ty, mk_isr, List.mem_cons, List.not_mem_nil, or_false, or_true, false_or, true_or, Nat.reduceEqDiff, Nat.reduceAdd, Nat.reduceSub, Nat.reduceLT, Nat.reduceLeDiff, ↓reduceIte, if_true, if_false, List.getElem?_cons_zero, List.getElem?_cons_succ, List.set_cons_zero, List.set_cons_succ, List.length_cons, List.length_nil, mz_s1, mz_s2, mz_cl, true_and, and_true, false_and, and_false, List.append_nil, mk_b0, mk_b1, mk_b2, mk_bn, Value.int.injEq, Option.toList_some, Option.toList_none, List.cons_append, List.nil_append, Classical.not_not, Option.some.injEq, reduceCtorEq, ne_eq, not_true_eq_false, not_false_eq_true, false_implies, true_implies, ev_51, ev_41, ev_79, ft_0_7, fn_0_7, ft_10_0, fn_10_0, ev_37, ev_68, ev_64, mz_rl d_Office_counter_4, mz_rl d_Office_counter_7, mz_rl d_Office_counter_17, mz_rl d_Office_counter_18, mz_rl d_Office_counter_21, mz_rl d_Office_counter_24, mz_rl d_Office_counter_25, mz_rl d_Office_counter_26, j_Office_counter_4, nF_0, eq_true hx, ho, h16, k7, vp_in_nI hi (show 4 < 2 ^ 31 by decide), nI_clamp (show i < 2 ^ 31 by omega)]
    exact ⟨⟨i, hi, rfl, rfl⟩, rfl, h, fun _ _ _ => rfl, MU_rf f⟩
  · refine mz_go [7] 20 ?_
    simp only [mz_r0, mk_lit, mk_fin, mk_cat, mk_fit, mk_nar, mk_cls, mk_ty, mk_isr, List.mem_cons, List.not_mem_nil, or_false, or_true, false_or, true_or, Nat.reduceEqDiff, Nat.reduceAdd, Nat.reduceSub, Nat.reduceLT, Nat.reduceLeDiff, ↓reduceIte, if_true, if_false, List.getElem?_cons_zero, List.getElem?_cons_succ, List.set_cons_zero, List.set_cons_succ, List.length_cons, List.length_nil, mz_s1, mz_s2, mz_cl, true_and, and_true, false_and, and_false, List.append_nil, mk_b0, mk_b1, mk_b2, mk_bn, Value.int.injEq, Option.toList_some, Option.toList_none, List.cons_append, List.nil_append, Classical.not_not, Option.some.injEq, reduceCtorEq, ne_eq, not_true_eq_false, not_false_eq_true, false_implies, true_implies, ev_51, ev_41, ev_79, ft_0_7, fn_0_7, ft_10_0, fn_10_0, ev_37, ev_68, ev_64, mz_rl d_Office_counter_4, mz_rl d_Office_counter_17, mz_rl d_Office_counter_18, mz_rl d_Office_counter_21, mz_rl d_Office_counter_24, mz_rl d_Office_counter_25, mz_rl d_Office_counter_26, j_Office_counter_4, nF_0, eq_false hx]
    exact mz_throw hfl (by decide) (by simp only [d_Office_counter]) (by simp only [d_Office_counter, Nat.reduceAdd]) (by simp only [d_Office_counter, Nat.reduceAdd]) (by simp only [d_Office_counter, Nat.reduceAdd]) (by simp only [d_Office_counter, Nat.reduceAdd]) th_s_214 th_w_195 (by decide +kernel) th_fits (by decide) (by decide) (by decide) (by decide) ⟨rfl, rfl, rfl, hx⟩
end
section
/-- a call that changes the light and the tabulator alone -/
theorem CI_tb {f F : mz_H} {n K : Nat} {sz : Nat → Nat} {cd s : Nat → Nat → Nat} (h : CI f n K sz cd s) {x : Nat} (hT : Tb F x) (h4 : ∃ u w, F 4 = .inr (5, [.int u, .int w])) (he : ∀ q, q ≠ 4 → (q < 16 ∨ 125 < q) → F q = f q) : CI F n K sz cd s ∧ FrY f F := by
  obtain ⟨x', h1, h2, h3, -, h5, h6, h7⟩ := h
  obtain ⟨c1, c2, c3, c4, c5, c6, c7, c8, c9, c10, c11, c12, c13, c14, c15⟩ := h3
  have hCB : CB F := by
    intro i hi
    obtain ⟨w, A, T, L, q1, q2⟩ := h5 i hi
    refine ⟨w, A, T, L, ?_, q2⟩
    unfold Bd
    rw [he _ (by omega) (by omega), he _ (by omega) (by omega), he _ (by omega) (by omega), he _ (by omega) (by omega)]
    exact q1
  refine ⟨⟨x, h1, h2, ⟨?_, ?_, ?_, ?_, h4, ?_, ?_, ?_, ?_, Dk0_eq c10 (he _ (by decide) (by decide)) (he _ (by decide) (by decide)), Dk0_eq c11 (he _ (by decide) (by decide)) (he _ (by decide) (by decide)), ?_, ?_, ?_, ?_⟩, hT, hCB, CD_eq h6 (fun q _ hq => he q (by omega) (by omega)), Cd_eq h7 h2 (fun q hq _ => he q (by omega) (by omega))⟩, fun q h1 _ => he q (by omega) (by omega)⟩
  all_goals (rw [he _ (by decide) (by decide)]; assumption)
def teP (f : mz_H) (n K : Nat) (sz : Nat → Nat) (cd s : Nat → Nat → Nat) (u : tT) (v : Option Value) (n' : Nat) (f' : mz_H) : Prop := v = some (.int (nI u.2.1)) ∧ n' = n ∧ CI f' n K sz cd s ∧ FrY f f' ∧ MU f f' no_U ∧ TT f' (u.1, 0, u.2.2)
theorem c_Office_tear (G : mz_G) (n : Nat) (f : mz_H) {K : Nat} {sz : Nat → Nat} {cd s : Nat → Nat → Nat} (h : CI f n K sz cd s) {u : tT} (hX : TT f u) :
    mz_Ct G mk_P y_Office_tear b_Office_tear 2 (some .int) (r_Office_tear 0 0) [.ref 0] n f (teP f n K sz cd s u) := by
  obtain ⟨lx, h1, h2, h3, h4, h5, h6, h7⟩ := id h
  have ho := h3.1
  have h16 := h4.1
  have h18 := hX.2.1
  refine mk_Ct 0 false [some (.ref 0), none] (by decide) rfl (by decide) (Nat.le_of_ble_eq_true rfl) rfl ?_
  refine mz_go [] 20 ?_
  simp only [mz_r0, mk_lit, mk_fin, mk_cat, mk_fit, mk_nar, mk_cls, mk_ty, mk_isr, List.mem_cons, List.not_mem_nil, or_false, or_true, false_or, true_or, Nat.reduceEqDiff, Nat.reduceAdd, Nat.reduceSub, Nat.reduceLT, Nat.reduceLeDiff, ↓reduceIte, if_true, if_false, List.getElem?_cons_zero, List.getElem?_cons_succ, List.set_cons_zero, List.set_cons_succ, List.length_cons, List.length_nil, mz_s1, mz_s2, mz_cl, true_and, and_true, false_and, and_false, List.append_nil, mk_b0, mk_b1, mk_b2, mk_bn, Value.int.injEq, Option.toList_some, Option.toList_none, List.cons_append, List.nil_append, Classical.not_not, Option.some.injEq, reduceCtorEq, ne_eq, not_true_eq_false, not_false_eq_true, false_implies, true_implies, ev_41, ev_79, ft_0_7, fn_0_7, ft_10_1, fn_10_1, ft_7_1, fn_7_1, ev_43, ev_0, ev_80, ev_37, ev_64, mz_rl d_Office_tear_0, mz_rl d_Office_tear_1, mz_rl d_Office_tear_4, mz_rl d_Office_tear_7, mz_rl d_Office_tear_10, mz_rl d_Office_tear_11, mz_rl d_Office_tear_12, mz_rl d_Office_tear_15, mz_rl d_Office_tear_18, mz_rl d_Office_tear_19, mz_rl d_Office_tear_22, mz_rl d_Office_tear_23, nF_0, ho, h16, h18]
  suffices hCI : CI (mz_u f 18 (.inr (7, [.ref 19, .int (nI 0)]))) n K sz cd s ∧ FrY f (mz_u f 18 (.inr (7, [.ref 19, .int (nI 0)]))) from ⟨rfl, rfl, hCI.1, hCI.2, MU_n (mz_u_n (by decide)) (mz_u_n (by decide)) (mz_u_n (by decide)), (mz_u_n (by decide)).trans hX.1, mz_u_s _ _ _, fun i hi => absurd hi (Nat.not_lt_zero _), Nat.zero_le _, hX.2.2.2.2⟩
  refine CI_tb h (x := 0) ?_ ?_ (fun q q1 q2 => mz_u_n (by omega))
  · obtain ⟨t1, t2, t3, t4, t5, t6, t7, t8, t9, t10⟩ := h4
    refine ⟨?_, ?_, ⟨mz_u_s _ _ _, ?_, fun i hi => ?_⟩, by decide, ?_, ?_, ?_, ?_, ?_, ?_⟩
    case refine_4 => rw [mz_u_n (by omega)]; exact t3.2.2 i hi
    case refine_3 => rw [mz_u_n (by decide)]; exact t3.2.1
    all_goals (rw [mz_u_n (by decide)]; assumption)
  · rw [mz_u_n (by decide)]; exact h3.2.2.2.2.1
end
section
/-- the office as the constructor leaves it -/
def CI0 (f : mz_H) : Prop := CM f 0 ∧ Tb f 0 ∧ BX f bs0 ∧ CD f 0 (fun _ => 0) (fun _ _ => 0) ∧ MC f mS0 ∧ f 17 = aI 4 (fun _ => nI 0)
theorem CI0_CI {f F : mz_H} (h : CI0 f) (he : ∀ q, q < 158 → F q = f q) (h2 : F 1000000000001 = f 1000000000001) : CI F 172 0 (fun _ => 0) (fun _ _ => 0) (fun _ _ => 0) := by
  obtain ⟨h3, h4, h5, h6, -⟩ := h
  refine ⟨0, rfl, by decide, CM_eq h3 (fun q hq => he q (by omega)) h2, Tb_eq h4 (fun q _ hq => he q (by omega)), ?_, CD_eq h6 (fun q _ hq => he q (by omega)), fun k hk => absurd hk (by omega)⟩
  intro i hi
  exact BX_CB (BX_eq h5 (fun q _ hq => he q (by omega))) bs0_ok i hi
/-- the machines and the tabulator at the start -/
def tT0 : tT := (fun _ => 0, 0, fun _ _ => 0)
theorem CI0_X {f F : mz_H} (h : CI0 f) (he : ∀ q, q < 158 → F q = f q) : MC F mS0 ∧ TT F tT0 := by
  obtain ⟨h3, h4, h5, h6, h7, h8⟩ := h
  refine ⟨⟨(he 4 (by decide)).trans h7.1, (he 5 (by decide)).trans h7.2.1, (he 8 (by decide)).trans h7.2.2⟩, (he 17 (by decide)).trans h8, (he 18 (by decide)).trans h4.2.2.1.1, fun i hi => absurd hi (Nat.not_lt_zero _), Nat.zero_le _, fun c _ => ?_⟩
  show 0 < 1000000
  decide
def deckP (i : Nat) : Nat → Option Nat := fun j => if j < i then some (126 + 2 * j) else none
def boardP (i : Nat) : Nat → Option Nat := fun j => if j < i then some (142 + 4 * j) else none
theorem deckP_up (i : Nat) : va_up (deckP i) i (some (126 + 2 * i)) = deckP (i + 1) := by
  funext j
  unfold va_up deckP
  by_cases h : j = i
  · subst h; rw [if_pos rfl, if_pos (by omega)]
  · rw [if_neg h]
    by_cases h2 : j < i
    · rw [if_pos h2, if_pos (by omega)]
    · rw [if_neg h2, if_neg (by omega)]
theorem boardP_up (i : Nat) : va_up (boardP i) i (some (142 + 4 * i)) = boardP (i + 1) := by
  funext j
  unfold va_up boardP
  by_cases h : j = i
  · subst h; rw [if_pos rfl, if_pos (by omega)]
  · rw [if_neg h]
    by_cases h2 : j < i
    · rw [if_pos h2, if_pos (by omega)]
    · rw [if_neg h2, if_neg (by omega)]
set_option maxRecDepth 20000 in
theorem l_Office_init2 (G : mz_G) (B : mz_H) (hB0 : B 0 = .inr (0, [.ref 1, .ref 2, .ref 3, .ref 4, .ref 5, .ref 8, .ref 13, .ref 16])) :
    ∀ m i H, i + m = 4 → (∀ q, q ≠ 2 → (q < 142 ∨ 157 < q) → H q = B q) → H 2 = aQ 5 4 (boardP i) → (∀ j, j < i → Bd H (142 + 4 * j) 0 (fun _ => 0) (fun _ => 0) (cpy (fun _ => 3) (fun _ => 0) 4)) →
      mz_X G mk_P 0 true b_Office_init 2 none (r_Office_init 158 6000) (fun v n' f' => v = none ∧ n' = 158 ∧ (∀ q, q ≠ 2 → (q < 142 ∨ 157 < q) → f' q = B q) ∧ f' 2 = aQ 5 4 boardQ ∧ BX f' bs0) (fun _ _ _ => False) 113 [some (.ref 0), some (.int (nI i))] [] (141 + 4 * i) (4892 + 88 * i) (142 + 4 * i) H := by
  intro m
  induction m with
  | zero =>
    intro i H hi hF h2 hP
    have : i = 4 := by omega
    subst this
    refine mz_go [] 20 ?_
    simp only [mz_r0, mk_lit, mk_fin, mk_cat, mk_fit, mk_nar, mk_cls, mk_ty, mk_isr, List.mem_cons, List.not_mem_nil, or_false, or_true, false_or, true_or, Nat.reduceEqDiff, Nat.reduceAdd, Nat.reduceSub, Nat.reduceLT, Nat.reduceLeDiff, ↓reduceIte, if_true, if_false, List.getElem?_cons_zero, List.getElem?_cons_succ, List.set_cons_zero, List.set_cons_succ, List.length_cons, List.length_nil, mz_s1, mz_s2, mz_cl, true_and, and_true, false_and, and_false, List.append_nil, mk_b0, mk_b1, mk_b2, mk_bn, Value.int.injEq, Option.toList_some, Option.toList_none, List.cons_append, List.nil_append, Classical.not_not, Option.some.injEq, reduceCtorEq, ne_eq, not_true_eq_false, not_false_eq_true, false_implies, true_implies, ev_37, ev_0, ev_56, ev_41, ev_79, ft_0_1, fn_0_1, ev_67, mz_rl d_Office_init_113, mz_rl d_Office_init_114, mz_rl d_Office_init_115, mz_rl d_Office_init_118, mz_rl d_Office_init_119, mz_rl d_Office_init_122, mz_rl d_Office_init_123, mz_rl d_Office_init_137, j_Office_init_115, nF_0, nI_leI (show 4 < 2 ^ 31 by omega) (show 4 < 2 ^ 31 by omega), Nat.le_refl]
    exact ⟨hF, h2, hP⟩
  | succ m ih =>
    intro i H hi hF h2 hP
    have k0 := (hF 0 (by decide) (by decide)).trans hB0
    refine mz_go [123] 20 ?_
    simp only [mz_r0, mk_lit, mk_fin, mk_cat, mk_fit, mk_nar, mk_cls, mk_ty, mk_isr, List.mem_cons, List.not_mem_nil, or_false, or_true, false_or, true_or, Nat.reduceEqDiff, Nat.reduceAdd, Nat.reduceSub, Nat.reduceLT, Nat.reduceLeDiff, ↓reduceIte, if_true, if_false, List.getElem?_cons_zero, List.getElem?_cons_succ, List.set_cons_zero, List.set_cons_succ, List.length_cons, List.length_nil, mz_s1, mz_s2, mz_cl, true_and, and_true, false_and, and_false, List.append_nil, mk_b0, mk_b1, mk_b2, mk_bn, Value.int.injEq, Option.toList_some, Option.toList_none, List.cons_append, List.nil_append, Classical.not_not, Option.some.injEq, reduceCtorEq, ne_eq, not_true_eq_false, not_false_eq_true, false_implies, true_implies, ev_37, ev_0, ev_56, ev_41, ev_79, ft_0_1, fn_0_1, ev_67, mz_rl d_Office_init_113, mz_rl d_Office_init_114, mz_rl d_Office_init_115, mz_rl d_Office_init_118, mz_rl d_Office_init_119, mz_rl d_Office_init_122, mz_rl d_Office_init_137, j_Office_init_115, nF_0, nI_leI (show 4 < 2 ^ 31 by omega) (show i < 2 ^ 31 by omega), show ¬ 4 ≤ i by omega, k0]
    refine mz_new (ci := 1) (fs := [.null, .null, .null, .int (nI 0)]) (by simp only [d_Office_init]) rfl w_new_0_15 rfl (by show 141 + 4 * i + 1 ≤ 158; omega) (by show 4892 + 88 * i + 4 ≤ 6000; omega) (by unfold mz_e0; omega) ?_
    refine mz_go [127] 20 ?_
    simp only [mz_r0, mk_lit, mk_fin, mk_cat, mk_fit, mk_nar, mk_cls, mk_ty, mk_isr, List.mem_cons, List.not_mem_nil, or_false, or_true, false_or, true_or, Nat.reduceEqDiff, Nat.reduceAdd, Nat.reduceSub, Nat.reduceLT, Nat.reduceLeDiff, ↓reduceIte, if_true, if_false, List.getElem?_cons_zero, List.getElem?_cons_succ, List.set_cons_zero, List.set_cons_succ, List.length_cons, List.length_nil, mz_s1, mz_s2, mz_cl, true_and, and_true, false_and, and_false, List.append_nil, mk_b0, mk_b1, mk_b2, mk_bn, Value.int.injEq, Option.toList_some, Option.toList_none, List.cons_append, List.nil_append, Classical.not_not, Option.some.injEq, reduceCtorEq, ne_eq, not_true_eq_false, not_false_eq_true, false_implies, true_implies, ev_32, mz_rl d_Office_init_126, nF_0]
    refine mz_callI (by simp only [d_Office_init_127, Nat.reduceAdd]) g_0_61 rfl (fun _ _ h => h) (c_Board_init G mk_P _ (b := 142 + 4 * i) (mz_u_s _ _ _) (by unfold mz_e0; omega)) ⟨by decide, by show 141 + 4 * i + 1 + 3 ≤ 158; omega, by show 4892 + 88 * i + 4 + 84 ≤ 6000; omega⟩ (Nat.le_of_ble_eq_true rfl) rfl ?_; rintro v_ n_ f_ ⟨rfl, rfl, ⟨hB, hok⟩, hfr⟩
    have q2 : f_ 2 = aQ 5 4 (boardP i) := by rw [hfr 2 (by omega), mz_u_n (by omega)]; exact h2
    refine mz_go [113] 20 ?_
    simp only [mz_r0, mk_lit, mk_fin, mk_cat, mk_fit, mk_nar, mk_cls, mk_ty, mk_isr, List.mem_cons, List.not_mem_nil, or_false, or_true, false_or, true_or, Nat.reduceEqDiff, Nat.reduceAdd, Nat.reduceSub, Nat.reduceLT, Nat.reduceLeDiff, ↓reduceIte, if_true, if_false, List.getElem?_cons_zero, List.getElem?_cons_succ, List.set_cons_zero, List.set_cons_succ, List.length_cons, List.length_nil, mz_s1, mz_s2, mz_cl, true_and, and_true, false_and, and_false, List.append_nil, mk_b0, mk_b1, mk_b2, mk_bn, Value.int.injEq, Option.toList_some, Option.toList_none, List.cons_append, List.nil_append, Classical.not_not, Option.some.injEq, reduceCtorEq, ne_eq, not_true_eq_false, not_false_eq_true, false_implies, true_implies, ev_77, ev_48, ev_61, mz_rl d_Office_init_130, mz_rl d_Office_init_131, mz_rl d_Office_init_134, j_Office_init_134, nF_0, q2, hB.1, nI_add, nI_clamp (show i < 2 ^ 31 by omega), vp_in_nI (show i < 4 by omega) (show 4 < 2 ^ 31 by decide), boardP_up]
    have e1 : 141 + 4 * i + 1 + 3 = 141 + 4 * (i + 1) := by omega
    have e2 : 4892 + 88 * i + 4 + 84 = 4892 + 88 * (i + 1) := by omega
    have e3 : 142 + 4 * i + 4 = 142 + 4 * (i + 1) := by omega
    show mz_X G mk_P 0 true b_Office_init 2 none (r_Office_init 158 6000) _ _ 113 _ _ (141 + 4 * i + 1 + 3) (4892 + 88 * i + 4 + 84) (142 + 4 * i + 4) _
    rw [e1, e2, e3]
    refine ih (i + 1) _ (by omega) (fun q z1 z2 => ?_) (mz_u_s _ _ _) (fun j hj => ?_)
    · rw [mz_u_n z1, hfr q (by omega), mz_u_n (by omega)]; exact hF q z1 z2
    · by_cases e : j = i
      · subst e
        unfold Bd
        rw [mz_u_n (by omega), mz_u_n (by omega), mz_u_n (by omega), mz_u_n (by omega)]
        exact hB
      · have p1 := hP j (by omega)
        unfold Bd
        rw [mz_u_n (by omega), mz_u_n (by omega), mz_u_n (by omega), mz_u_n (by omega), hfr _ (by omega), hfr _ (by omega), hfr _ (by omega), hfr _ (by omega), mz_u_n (by omega), mz_u_n (by omega), mz_u_n (by omega), mz_u_n (by omega)]
        exact p1
set_option maxRecDepth 20000 in
theorem l_Office_init1 (G : mz_G) (B : mz_H) (hB0 : B 0 = .inr (0, [.ref 1, .ref 2, .ref 3, .ref 4, .ref 5, .ref 8, .ref 13, .ref 16])) (hB2 : B 2 = aQ 5 4 (boardP 0)) :
    ∀ m i H, i + m = 8 → (∀ q, q ≠ 1 → (q < 126 ∨ 141 < q) → H q = B q) → H 1 = aQ 4 8 (deckP i) → (∀ j, j < i → Dk H (126 + 2 * j) (127 + 2 * j) 0 0 (fun _ => 0)) →
      mz_X G mk_P 0 true b_Office_init 2 none (r_Office_init 158 6000) (fun v n' f' => v = none ∧ n' = 158 ∧ (∀ q, q ≠ 1 → q ≠ 2 → (q < 126 ∨ 157 < q) → f' q = B q) ∧ f' 1 = aQ 4 8 deckQ ∧ f' 2 = aQ 5 4 boardQ ∧ BX f' bs0 ∧ CD f' 0 (fun _ => 0) (fun _ _ => 0)) (fun _ _ _ => False) 86 [some (.ref 0), some (.int (nI i))] [] (125 + 2 * i) (3276 + 202 * i) (126 + 2 * i) H := by
  intro m
  induction m with
  | zero =>
    intro i H hi hF h1 hP
    have : i = 8 := by omega
    subst this
    refine mz_go [113] 20 ?_
    simp only [mz_r0, mk_lit, mk_fin, mk_cat, mk_fit, mk_nar, mk_cls, mk_ty, mk_isr, List.mem_cons, List.not_mem_nil, or_false, or_true, false_or, true_or, Nat.reduceEqDiff, Nat.reduceAdd, Nat.reduceSub, Nat.reduceLT, Nat.reduceLeDiff, ↓reduceIte, if_true, if_false, List.getElem?_cons_zero, List.getElem?_cons_succ, List.set_cons_zero, List.set_cons_succ, List.length_cons, List.length_nil, mz_s1, mz_s2, mz_cl, true_and, and_true, false_and, and_false, List.append_nil, mk_b0, mk_b1, mk_b2, mk_bn, Value.int.injEq, Option.toList_some, Option.toList_none, List.cons_append, List.nil_append, Classical.not_not, Option.some.injEq, reduceCtorEq, ne_eq, not_true_eq_false, not_false_eq_true, false_implies, true_implies, ev_37, ev_1, ev_56, ev_41, ev_79, ft_0_0, fn_0_0, ev_0, ev_43, mz_rl d_Office_init_86, mz_rl d_Office_init_87, mz_rl d_Office_init_89, mz_rl d_Office_init_92, mz_rl d_Office_init_93, mz_rl d_Office_init_96, mz_rl d_Office_init_97, mz_rl d_Office_init_111, mz_rl d_Office_init_112, j_Office_init_89, nF_0, nI_leI (show 8 < 2 ^ 31 by omega) (show 8 < 2 ^ 31 by omega), Nat.le_refl]
    have h0 := (hF 0 (by decide) (by decide)).trans hB0
    have h2 := (hF 2 (by decide) (by decide)).trans hB2
    refine mz_mono ?_ (l_Office_init2 G H h0 4 0 H rfl (fun _ _ _ => rfl) h2 (fun j hj => absurd hj (by omega)))
    rintro v n' f' ⟨rfl, rfl, q1, q2, q3⟩
    refine ⟨rfl, rfl, fun q z1 z2 z3 => ?_, (q1 1 (by decide) (by decide)).trans h1, q2, q3, fun j hj => ?_, rfl⟩
    · rw [q1 q z2 (by omega)]; exact hF q z1 (by omega)
    · exact Dk_eq (hP j hj) (q1 _ (by omega) (by omega)) (q1 _ (by omega) (by omega))
  | succ m ih =>
    intro i H hi hF h1 hP
    have k0 := (hF 0 (by decide) (by decide)).trans hB0
    refine mz_go [97] 20 ?_
    simp only [mz_r0, mk_lit, mk_fin, mk_cat, mk_fit, mk_nar, mk_cls, mk_ty, mk_isr, List.mem_cons, List.not_mem_nil, or_false, or_true, false_or, true_or, Nat.reduceEqDiff, Nat.reduceAdd, Nat.reduceSub, Nat.reduceLT, Nat.reduceLeDiff, ↓reduceIte, if_true, if_false, List.getElem?_cons_zero, List.getElem?_cons_succ, List.set_cons_zero, List.set_cons_succ, List.length_cons, List.length_nil, mz_s1, mz_s2, mz_cl, true_and, and_true, false_and, and_false, List.append_nil, mk_b0, mk_b1, mk_b2, mk_bn, Value.int.injEq, Option.toList_some, Option.toList_none, List.cons_append, List.nil_append, Classical.not_not, Option.some.injEq, reduceCtorEq, ne_eq, not_true_eq_false, not_false_eq_true, false_implies, true_implies, ev_37, ev_1, ev_56, ev_41, ev_79, ft_0_0, fn_0_0, ev_0, ev_43, ft_0_1, fn_0_1, ev_67, mz_rl d_Office_init_86, mz_rl d_Office_init_87, mz_rl d_Office_init_89, mz_rl d_Office_init_92, mz_rl d_Office_init_93, mz_rl d_Office_init_96, mz_rl d_Office_init_111, mz_rl d_Office_init_112, mz_rl d_Office_init_113, mz_rl d_Office_init_114, mz_rl d_Office_init_115, mz_rl d_Office_init_118, mz_rl d_Office_init_119, mz_rl d_Office_init_122, mz_rl d_Office_init_123, mz_rl d_Office_init_137, j_Office_init_89, j_Office_init_115, nF_0, nI_leI (show 8 < 2 ^ 31 by omega) (show i < 2 ^ 31 by omega), show ¬ 8 ≤ i by omega, k0]
    refine mz_new (ci := 4) (fs := [.null, .int (nI 0)]) (by simp only [d_Office_init]) rfl w_new_0_9 rfl (by show 125 + 2 * i + 1 ≤ 158; omega) (by show 3276 + 202 * i + 2 ≤ 6000; omega) (by unfold mz_e0; omega) ?_
    refine mz_go [101] 20 ?_
    simp only [mz_r0, mk_lit, mk_fin, mk_cat, mk_fit, mk_nar, mk_cls, mk_ty, mk_isr, List.mem_cons, List.not_mem_nil, or_false, or_true, false_or, true_or, Nat.reduceEqDiff, Nat.reduceAdd, Nat.reduceSub, Nat.reduceLT, Nat.reduceLeDiff, ↓reduceIte, if_true, if_false, List.getElem?_cons_zero, List.getElem?_cons_succ, List.set_cons_zero, List.set_cons_succ, List.length_cons, List.length_nil, mz_s1, mz_s2, mz_cl, true_and, and_true, false_and, and_false, List.append_nil, mk_b0, mk_b1, mk_b2, mk_bn, Value.int.injEq, Option.toList_some, Option.toList_none, List.cons_append, List.nil_append, Classical.not_not, Option.some.injEq, reduceCtorEq, ne_eq, not_true_eq_false, not_false_eq_true, false_implies, true_implies, ev_32, mz_rl d_Office_init_100, nF_0]
    refine mz_callI (by simp only [d_Office_init_101, Nat.reduceAdd]) g_0_60 rfl (fun _ _ h => h) (c_Deck_init G mk_P _ _ (a := 126 + 2 * i) (mz_u_s _ _ _) (by omega) (by unfold mz_e0; omega)) ⟨by decide, by show 125 + 2 * i + 1 + 1 ≤ 158; omega, by show 3276 + 202 * i + 2 + 200 ≤ 6000; omega⟩ (Nat.le_of_ble_eq_true rfl) rfl ?_; rintro v_ n_ f_ ⟨rfl, rfl, rfl⟩
    refine mz_go [86] 20 ?_
    simp only [mz_r0, mk_lit, mk_fin, mk_cat, mk_fit, mk_nar, mk_cls, mk_ty, mk_isr, List.mem_cons, List.not_mem_nil, or_false, or_true, false_or, true_or, Nat.reduceEqDiff, Nat.reduceAdd, Nat.reduceSub, Nat.reduceLT, Nat.reduceLeDiff, ↓reduceIte, if_true, if_false, List.getElem?_cons_zero, List.getElem?_cons_succ, List.set_cons_zero, List.set_cons_succ, List.length_cons, List.length_nil, mz_s1, mz_s2, mz_cl, true_and, and_true, false_and, and_false, List.append_nil, mk_b0, mk_b1, mk_b2, mk_bn, Value.int.injEq, Option.toList_some, Option.toList_none, List.cons_append, List.nil_append, Classical.not_not, Option.some.injEq, reduceCtorEq, ne_eq, not_true_eq_false, not_false_eq_true, false_implies, true_implies, ev_77, ev_48, ev_61, mz_rl d_Office_init_104, mz_rl d_Office_init_105, mz_rl d_Office_init_108, j_Office_init_108, nF_0, mz_u_n (show 1 ≠ 126 + 2 * i by omega), mz_u_n (show 1 ≠ 126 + 2 * i + 1 by omega), h1, mz_u_s, nI_add, nI_clamp (show i < 2 ^ 31 by omega), vp_in_nI (show i < 8 by omega) (show 8 < 2 ^ 31 by decide), deckP_up]
    have e1 : 125 + 2 * i + 1 + 1 = 125 + 2 * (i + 1) := by omega
    have e2 : 3276 + 202 * i + 2 + 200 = 3276 + 202 * (i + 1) := by omega
    have e3 : 126 + 2 * i + 1 + 1 = 126 + 2 * (i + 1) := by omega
    show mz_X G mk_P 0 true b_Office_init 2 none (r_Office_init 158 6000) _ _ 86 _ _ (125 + 2 * i + 1 + 1) (3276 + 202 * i + 2 + 200) (126 + 2 * i + 1 + 1) _
    rw [e1, e2, e3]
    refine ih (i + 1) _ (by omega) (fun q z1 z2 => ?_) (mz_u_s _ _ _) (fun j hj => ?_)
    · rw [mz_u_n z1, mz_u_n (by omega), mz_u_n (by omega), mz_u_n (by omega)]; exact hF q z1 z2
    · by_cases e : j = i
      · subst e
        refine ⟨fun _ => none, ?_, ?_, fun j hj => absurd hj (by omega)⟩
        · rw [mz_u_n (by omega), mz_u_s, show 126 + 2 * j + 1 = 127 + 2 * j by omega]
        · rw [mz_u_n (by omega), mz_u_n (by omega), show 127 + 2 * j = 126 + 2 * j + 1 by omega, mz_u_s]
      · refine Dk_eq (hP j (by omega)) ?_ ?_
        · rw [mz_u_n (by omega), mz_u_n (by omega), mz_u_n (by omega), mz_u_n (by omega)]
        · rw [mz_u_n (by omega), mz_u_n (by omega), mz_u_n (by omega), mz_u_n (by omega)]
set_option maxRecDepth 20000 in
theorem c_Office_init (G : mz_G) (f : mz_H) (h1 : f 0 = .inr (0, [.null, .null, .null, .null, .null, .null, .null, .null])) (hp : f 1000000000001 = mz_d) : mz_Ct G mk_P y_Office_init b_Office_init 2 none (r_Office_init 158 6000) [.ref 0] 1 f (fun v n' f' => v = none ∧ n' = 158 ∧ CI0 f' ∧ f' 1000000000001 = mz_d) := by
  refine mk_Ct 0 true [some (.ref 0), none] (by decide) rfl (by decide) (Nat.le_of_ble_eq_true rfl) rfl ?_
  refine mz_go [1] 4 ?_
  simp only [mz_r0, mk_lit, mk_fin, mk_cat, mk_fit, mk_nar, mk_cls, mk_ty, mk_isr, List.mem_cons, List.not_mem_nil, or_false, or_true, false_or, true_or, Nat.reduceEqDiff, Nat.reduceAdd, Nat.reduceSub, Nat.reduceLT, Nat.reduceLeDiff, ↓reduceIte, if_true, if_false, List.getElem?_cons_zero, List.getElem?_cons_succ, List.set_cons_zero, List.set_cons_succ, List.length_cons, List.length_nil, mz_s1, mz_s2, mz_cl, true_and, and_true, false_and, and_false, List.append_nil, mk_b0, mk_b1, mk_b2, mk_bn, Value.int.injEq, Option.toList_some, Option.toList_none, List.cons_append, List.nil_append, Classical.not_not, Option.some.injEq, reduceCtorEq, ne_eq, not_true_eq_false, not_false_eq_true, false_implies, true_implies, ev_41, mz_rl d_Office_init_0, nF_0]
  refine mz_objInit (by simp only [d_Office_init]) w_obj_0 (by decide) (by decide) ?_
  refine mz_go [7] 12 ?_
  simp only [mz_r0, mk_lit, mk_fin, mk_cat, mk_fit, mk_nar, mk_cls, mk_ty, mk_isr, List.mem_cons, List.not_mem_nil, or_false, or_true, false_or, true_or, Nat.reduceEqDiff, Nat.reduceAdd, Nat.reduceSub, Nat.reduceLT, Nat.reduceLeDiff, ↓reduceIte, if_true, if_false, List.getElem?_cons_zero, List.getElem?_cons_succ, List.set_cons_zero, List.set_cons_succ, List.length_cons, List.length_nil, mz_s1, mz_s2, mz_cl, true_and, and_true, false_and, and_false, List.append_nil, mk_b0, mk_b1, mk_b2, mk_bn, Value.int.injEq, Option.toList_some, Option.toList_none, List.cons_append, List.nil_append, Classical.not_not, Option.some.injEq, reduceCtorEq, ne_eq, not_true_eq_false, not_false_eq_true, false_implies, true_implies, ev_41, ev_1, mz_rl d_Office_init_4, mz_rl d_Office_init_5, nF_0]
  refine mz_newq (C := "CardOffice$Deck") (t := 4) (N := 8) (by simp only [d_Office_init]) rfl w_anew_0_9 (by decide) (by decide) (by decide) (by decide) (by decide) (by decide) ?_
  refine mz_go [15] 12 ?_
  simp only [mz_r0, mk_lit, mk_fin, mk_cat, mk_fit, mk_nar, mk_cls, mk_ty, mk_isr, List.mem_cons, List.not_mem_nil, or_false, or_true, false_or, true_or, Nat.reduceEqDiff, Nat.reduceAdd, Nat.reduceSub, Nat.reduceLT, Nat.reduceLeDiff, ↓reduceIte, if_true, if_false, List.getElem?_cons_zero, List.getElem?_cons_succ, List.set_cons_zero, List.set_cons_succ, List.length_cons, List.length_nil, mz_s1, mz_s2, mz_cl, true_and, and_true, false_and, and_false, List.append_nil, mk_b0, mk_b1, mk_b2, mk_bn, Value.int.injEq, Option.toList_some, Option.toList_none, List.cons_append, List.nil_append, Classical.not_not, Option.some.injEq, reduceCtorEq, ne_eq, not_true_eq_false, not_false_eq_true, false_implies, true_implies, ev_80, ft_0_0, fn_0_0, ev_41, ev_0, mz_rl d_Office_init_10, mz_rl d_Office_init_13, mz_rl d_Office_init_14, nF_0, h1, mz_u_n (show 0 ≠ 1 by decide), mz_u_s, mk_fldF]
  refine mz_newq (C := "CardOffice$Board") (t := 5) (N := 4) (by simp only [d_Office_init]) rfl w_anew_0_15 (by decide) (by decide) (by decide) (by decide) (by decide) (by decide) ?_
  refine mz_go [24] 12 ?_
  simp only [mz_r0, mk_lit, mk_fin, mk_cat, mk_fit, mk_nar, mk_cls, mk_ty, mk_isr, List.mem_cons, List.not_mem_nil, or_false, or_true, false_or, true_or, Nat.reduceEqDiff, Nat.reduceAdd, Nat.reduceSub, Nat.reduceLT, Nat.reduceLeDiff, ↓reduceIte, if_true, if_false, List.getElem?_cons_zero, List.getElem?_cons_succ, List.set_cons_zero, List.set_cons_succ, List.length_cons, List.length_nil, mz_s1, mz_s2, mz_cl, true_and, and_true, false_and, and_false, List.append_nil, mk_b0, mk_b1, mk_b2, mk_bn, Value.int.injEq, Option.toList_some, Option.toList_none, List.cons_append, List.nil_append, Classical.not_not, Option.some.injEq, reduceCtorEq, ne_eq, not_true_eq_false, not_false_eq_true, false_implies, true_implies, ev_80, ft_0_1, fn_0_1, ev_41, ev_1, mz_rl d_Office_init_18, mz_rl d_Office_init_21, mz_rl d_Office_init_22, nF_0, mz_u_n (show 0 ≠ 2 by decide), mz_u_s, mk_fldF]
  refine mz_newa (at' := .int) (ty := .int) (t := 0) (N := 16) (a0 := (16, .inl (fun _ => nI 0))) (by simp only [d_Office_init]) rfl rfl (fun _ _ => rfl) w_arr_int (mk_arrI 16) (fun _ => rfl) trivial (by decide) (by decide) (by decide) (by decide) (by decide) (by decide) ?_
  refine mz_go [30] 12 ?_
  simp only [mz_r0, mk_lit, mk_fin, mk_cat, mk_fit, mk_nar, mk_cls, mk_ty, mk_isr, List.mem_cons, List.not_mem_nil, or_false, or_true, false_or, true_or, Nat.reduceEqDiff, Nat.reduceAdd, Nat.reduceSub, Nat.reduceLT, Nat.reduceLeDiff, ↓reduceIte, if_true, if_false, List.getElem?_cons_zero, List.getElem?_cons_succ, List.set_cons_zero, List.set_cons_succ, List.length_cons, List.length_nil, mz_s1, mz_s2, mz_cl, true_and, and_true, false_and, and_false, List.append_nil, mk_b0, mk_b1, mk_b2, mk_bn, Value.int.injEq, Option.toList_some, Option.toList_none, List.cons_append, List.nil_append, Classical.not_not, Option.some.injEq, reduceCtorEq, ne_eq, not_true_eq_false, not_false_eq_true, false_implies, true_implies, ev_80, ft_0_2, fn_0_2, ev_41, mz_rl d_Office_init_26, mz_rl d_Office_init_29, nF_0, mz_u_n (show 0 ≠ 3 by decide), mz_u_s, mk_fldF]
  refine mz_new (ci := 5) (fs := [.int (nI 0), .int (nI 0)]) (by simp only [d_Office_init]) rfl w_new_0_25 rfl (by decide) (by decide) (by decide) ?_
  refine mz_go [34] 12 ?_
  simp only [mz_r0, mk_lit, mk_fin, mk_cat, mk_fit, mk_nar, mk_cls, mk_ty, mk_isr, List.mem_cons, List.not_mem_nil, or_false, or_true, false_or, true_or, Nat.reduceEqDiff, Nat.reduceAdd, Nat.reduceSub, Nat.reduceLT, Nat.reduceLeDiff, ↓reduceIte, if_true, if_false, List.getElem?_cons_zero, List.getElem?_cons_succ, List.set_cons_zero, List.set_cons_succ, List.length_cons, List.length_nil, mz_s1, mz_s2, mz_cl, true_and, and_true, false_and, and_false, List.append_nil, mk_b0, mk_b1, mk_b2, mk_bn, Value.int.injEq, Option.toList_some, Option.toList_none, List.cons_append, List.nil_append, Classical.not_not, Option.some.injEq, reduceCtorEq, ne_eq, not_true_eq_false, not_false_eq_true, false_implies, true_implies, ev_32, mz_rl d_Office_init_33, nF_0]
  refine mz_callI (by simp only [d_Office_init_34, Nat.reduceAdd]) g_0_27 rfl (fun _ _ h => h) (c_FaultLight_init G mk_P 5 _ (a := 4) (mz_u_s _ _ _) (by decide)) (by decide) (Nat.le_of_ble_eq_true rfl) rfl ?_; rintro v_ n_ f_ ⟨rfl, rfl, rfl⟩
  refine mz_go [41] 12 ?_
  simp only [mz_r0, mk_lit, mk_fin, mk_cat, mk_fit, mk_nar, mk_cls, mk_ty, mk_isr, List.mem_cons, List.not_mem_nil, or_false, or_true, false_or, true_or, Nat.reduceEqDiff, Nat.reduceAdd, Nat.reduceSub, Nat.reduceLT, Nat.reduceLeDiff, ↓reduceIte, if_true, if_false, List.getElem?_cons_zero, List.getElem?_cons_succ, List.set_cons_zero, List.set_cons_succ, List.length_cons, List.length_nil, mz_s1, mz_s2, mz_cl, true_and, and_true, false_and, and_false, List.append_nil, mk_b0, mk_b1, mk_b2, mk_bn, Value.int.injEq, Option.toList_some, Option.toList_none, List.cons_append, List.nil_append, Classical.not_not, Option.some.injEq, reduceCtorEq, ne_eq, not_true_eq_false, not_false_eq_true, false_implies, true_implies, ev_80, ft_0_3, fn_0_3, ev_41, mz_rl d_Office_init_37, mz_rl d_Office_init_40, nF_0, mz_u_n (show 0 ≠ 4 by decide), mz_u_s, mk_fldF]
  refine mz_new (ci := 9) (fs := [.null, .null, .int (nI 0)]) (by simp only [d_Office_init]) rfl w_new_0_32 rfl (by decide) (by decide) (by decide) ?_
  refine mz_go [45] 12 ?_
  simp only [mz_r0, mk_lit, mk_fin, mk_cat, mk_fit, mk_nar, mk_cls, mk_ty, mk_isr, List.mem_cons, List.not_mem_nil, or_false, or_true, false_or, true_or, Nat.reduceEqDiff, Nat.reduceAdd, Nat.reduceSub, Nat.reduceLT, Nat.reduceLeDiff, ↓reduceIte, if_true, if_false, List.getElem?_cons_zero, List.getElem?_cons_succ, List.set_cons_zero, List.set_cons_succ, List.length_cons, List.length_nil, mz_s1, mz_s2, mz_cl, true_and, and_true, false_and, and_false, List.append_nil, mk_b0, mk_b1, mk_b2, mk_bn, Value.int.injEq, Option.toList_some, Option.toList_none, List.cons_append, List.nil_append, Classical.not_not, Option.some.injEq, reduceCtorEq, ne_eq, not_true_eq_false, not_false_eq_true, false_implies, true_implies, ev_32, mz_rl d_Office_init_44, nF_0]
  refine mz_callI (by simp only [d_Office_init_45, Nat.reduceAdd]) g_0_34 rfl (fun _ _ h => h) (c_Sorter_init G mk_P 6 _ (a := 5) (mz_u_s _ _ _) (by decide) (by decide)) (by decide) (Nat.le_of_ble_eq_true rfl) rfl ?_; rintro v_ n_ f_ ⟨rfl, rfl, rfl⟩
  refine mz_go [52] 12 ?_
  simp only [mz_r0, mk_lit, mk_fin, mk_cat, mk_fit, mk_nar, mk_cls, mk_ty, mk_isr, List.mem_cons, List.not_mem_nil, or_false, or_true, false_or, true_or, Nat.reduceEqDiff, Nat.reduceAdd, Nat.reduceSub, Nat.reduceLT, Nat.reduceLeDiff, ↓reduceIte, if_true, if_false, List.getElem?_cons_zero, List.getElem?_cons_succ, List.set_cons_zero, List.set_cons_succ, List.length_cons, List.length_nil, mz_s1, mz_s2, mz_cl, true_and, and_true, false_and, and_false, List.append_nil, mk_b0, mk_b1, mk_b2, mk_bn, Value.int.injEq, Option.toList_some, Option.toList_none, List.cons_append, List.nil_append, Classical.not_not, Option.some.injEq, reduceCtorEq, ne_eq, not_true_eq_false, not_false_eq_true, false_implies, true_implies, ev_80, ft_0_4, fn_0_4, ev_41, mz_rl d_Office_init_48, mz_rl d_Office_init_51, nF_0, mz_u_n (show 0 ≠ 5 by decide), mz_u_n (show 0 ≠ 6 by decide), mz_u_n (show 0 ≠ 7 by decide), mz_u_s, mk_fldF]
  refine mz_new (ci := 3) (fs := [.null, .null, .int (nI 0)]) (by simp only [d_Office_init]) rfl w_new_0_39 rfl (by decide) (by decide) (by decide) ?_
  refine mz_go [56] 12 ?_
  simp only [mz_r0, mk_lit, mk_fin, mk_cat, mk_fit, mk_nar, mk_cls, mk_ty, mk_isr, List.mem_cons, List.not_mem_nil, or_false, or_true, false_or, true_or, Nat.reduceEqDiff, Nat.reduceAdd, Nat.reduceSub, Nat.reduceLT, Nat.reduceLeDiff, ↓reduceIte, if_true, if_false, List.getElem?_cons_zero, List.getElem?_cons_succ, List.set_cons_zero, List.set_cons_succ, List.length_cons, List.length_nil, mz_s1, mz_s2, mz_cl, true_and, and_true, false_and, and_false, List.append_nil, mk_b0, mk_b1, mk_b2, mk_bn, Value.int.injEq, Option.toList_some, Option.toList_none, List.cons_append, List.nil_append, Classical.not_not, Option.some.injEq, reduceCtorEq, ne_eq, not_true_eq_false, not_false_eq_true, false_implies, true_implies, ev_32, mz_rl d_Office_init_55, nF_0]
  refine mz_callI (by simp only [d_Office_init_56, Nat.reduceAdd]) g_0_41 rfl (fun _ _ h => h) (c_Collator_init G mk_P _ (mz_u_s _ _ _)) (by decide) (Nat.le_of_ble_eq_true rfl) rfl ?_; rintro v_ n_ f_ ⟨rfl, rfl, b8, b9, b11, hF⟩
  have g0 := hF 0 (by decide)
  have g1 := hF 1 (by decide)
  have g2 := hF 2 (by decide)
  have g3 := hF 3 (by decide)
  have g4 := hF 4 (by decide)
  have g5 := hF 5 (by decide)
  have g6 := hF 6 (by decide)
  have g7 := hF 7 (by decide)
  have gp := hF 1000000000001 (by decide)
  simp [mz_u] at g0 g1 g2 g3 g4 g5 g6 g7 gp
  refine mz_go [63] 12 ?_
  simp only [mz_r0, mk_lit, mk_fin, mk_cat, mk_fit, mk_nar, mk_cls, mk_ty, mk_isr, List.mem_cons, List.not_mem_nil, or_false, or_true, false_or, true_or, Nat.reduceEqDiff, Nat.reduceAdd, Nat.reduceSub, Nat.reduceLT, Nat.reduceLeDiff, ↓reduceIte, if_true, if_false, List.getElem?_cons_zero, List.getElem?_cons_succ, List.set_cons_zero, List.set_cons_succ, List.length_cons, List.length_nil, mz_s1, mz_s2, mz_cl, true_and, and_true, false_and, and_false, List.append_nil, mk_b0, mk_b1, mk_b2, mk_bn, Value.int.injEq, Option.toList_some, Option.toList_none, List.cons_append, List.nil_append, Classical.not_not, Option.some.injEq, reduceCtorEq, ne_eq, not_true_eq_false, not_false_eq_true, false_implies, true_implies, ev_80, ft_0_5, fn_0_5, ev_41, mz_rl d_Office_init_59, mz_rl d_Office_init_62, nF_0, g0, mk_fldF]
  refine mz_new (ci := 8) (fs := [.null]) (by simp only [d_Office_init]) rfl w_new_0_46 rfl (by decide) (by decide) (by decide) ?_
  refine mz_go [67] 12 ?_
  simp only [mz_r0, mk_lit, mk_fin, mk_cat, mk_fit, mk_nar, mk_cls, mk_ty, mk_isr, List.mem_cons, List.not_mem_nil, or_false, or_true, false_or, true_or, Nat.reduceEqDiff, Nat.reduceAdd, Nat.reduceSub, Nat.reduceLT, Nat.reduceLeDiff, ↓reduceIte, if_true, if_false, List.getElem?_cons_zero, List.getElem?_cons_succ, List.set_cons_zero, List.set_cons_succ, List.length_cons, List.length_nil, mz_s1, mz_s2, mz_cl, true_and, and_true, false_and, and_false, List.append_nil, mk_b0, mk_b1, mk_b2, mk_bn, Value.int.injEq, Option.toList_some, Option.toList_none, List.cons_append, List.nil_append, Classical.not_not, Option.some.injEq, reduceCtorEq, ne_eq, not_true_eq_false, not_false_eq_true, false_implies, true_implies, ev_32, mz_rl d_Office_init_66, nF_0]
  refine mz_callI (by simp only [d_Office_init_67, Nat.reduceAdd]) g_0_48 rfl (fun _ _ h => h) (c_Reproducer_init G mk_P _ (mz_u_s _ _ _)) (by decide) (Nat.le_of_ble_eq_true rfl) rfl ?_; rintro v_ n_ f_ ⟨rfl, rfl, b13, b14, b15, hF2⟩
  rename_i f1
  have i0 := hF2 0 (by decide)
  rw [mz_u_n (by decide), mz_u_s] at i0
  have iF : ∀ q, q ≠ 0 → (q < 13 ∨ 15 < q) → f_ q = f1 q := fun q z1 z2 => by rw [hF2 q z2, mz_u_n (by omega), mz_u_n z1]
  refine mz_go [74] 12 ?_
  simp only [mz_r0, mk_lit, mk_fin, mk_cat, mk_fit, mk_nar, mk_cls, mk_ty, mk_isr, List.mem_cons, List.not_mem_nil, or_false, or_true, false_or, true_or, Nat.reduceEqDiff, Nat.reduceAdd, Nat.reduceSub, Nat.reduceLT, Nat.reduceLeDiff, ↓reduceIte, if_true, if_false, List.getElem?_cons_zero, List.getElem?_cons_succ, List.set_cons_zero, List.set_cons_succ, List.length_cons, List.length_nil, mz_s1, mz_s2, mz_cl, true_and, and_true, false_and, and_false, List.append_nil, mk_b0, mk_b1, mk_b2, mk_bn, Value.int.injEq, Option.toList_some, Option.toList_none, List.cons_append, List.nil_append, Classical.not_not, Option.some.injEq, reduceCtorEq, ne_eq, not_true_eq_false, not_false_eq_true, false_implies, true_implies, ev_80, ft_0_6, fn_0_6, ev_41, mz_rl d_Office_init_70, mz_rl d_Office_init_73, nF_0, i0, mk_fldF]
  refine mz_new (ci := 10) (fs := [.null, .null, .null, .null, .null]) (by simp only [d_Office_init]) rfl w_new_0_53 rfl (by decide) (by decide) (by decide) ?_
  refine mz_go [78] 12 ?_
  simp only [mz_r0, mk_lit, mk_fin, mk_cat, mk_fit, mk_nar, mk_cls, mk_ty, mk_isr, List.mem_cons, List.not_mem_nil, or_false, or_true, false_or, true_or, Nat.reduceEqDiff, Nat.reduceAdd, Nat.reduceSub, Nat.reduceLT, Nat.reduceLeDiff, ↓reduceIte, if_true, if_false, List.getElem?_cons_zero, List.getElem?_cons_succ, List.set_cons_zero, List.set_cons_succ, List.length_cons, List.length_nil, mz_s1, mz_s2, mz_cl, true_and, and_true, false_and, and_false, List.append_nil, mk_b0, mk_b1, mk_b2, mk_bn, Value.int.injEq, Option.toList_some, Option.toList_none, List.cons_append, List.nil_append, Classical.not_not, Option.some.injEq, reduceCtorEq, ne_eq, not_true_eq_false, not_false_eq_true, false_implies, true_implies, ev_32, mz_rl d_Office_init_77, nF_0]
  refine mz_callI (by simp only [d_Office_init_78, Nat.reduceAdd]) g_0_55 rfl (fun _ _ h => h) (c_Tabulator_init G mk_P _ (mz_u_s _ _ _)) (by decide) (Nat.le_of_ble_eq_true rfl) rfl ?_; rintro v_ n_ f_ ⟨rfl, rfl, bT, b17, hF3⟩
  rename_i f2
  have j0 := hF3 0 (by decide)
  rw [mz_u_n (by decide), mz_u_s] at j0
  have jF : ∀ q, q ≠ 0 → (q < 16 ∨ 125 < q) → f_ q = f2 q := fun q z1 z2 => by rw [hF3 q z2, mz_u_n (by omega), mz_u_n z1]
  have kF : ∀ q, q ≠ 0 → (q < 13 ∨ 125 < q) → f_ q = f1 q := fun q z1 z2 => (jF q z1 (by omega)).trans (iF q z1 (by omega))
  refine mz_go [86] 12 ?_
  simp only [mz_r0, mk_lit, mk_fin, mk_cat, mk_fit, mk_nar, mk_cls, mk_ty, mk_isr, List.mem_cons, List.not_mem_nil, or_false, or_true, false_or, true_or, Nat.reduceEqDiff, Nat.reduceAdd, Nat.reduceSub, Nat.reduceLT, Nat.reduceLeDiff, ↓reduceIte, if_true, if_false, List.getElem?_cons_zero, List.getElem?_cons_succ, List.set_cons_zero, List.set_cons_succ, List.length_cons, List.length_nil, mz_s1, mz_s2, mz_cl, true_and, and_true, false_and, and_false, List.append_nil, mk_b0, mk_b1, mk_b2, mk_bn, Value.int.injEq, Option.toList_some, Option.toList_none, List.cons_append, List.nil_append, Classical.not_not, Option.some.injEq, reduceCtorEq, ne_eq, not_true_eq_false, not_false_eq_true, false_implies, true_implies, ev_80, ft_0_7, fn_0_7, ev_0, ev_43, mz_rl d_Office_init_81, mz_rl d_Office_init_84, mz_rl d_Office_init_85, nF_0, j0, mk_fldF]
  obtain ⟨B, hB⟩ : ∃ B, B = mz_u f_ 0 (.inr (0, [.ref 1, .ref 2, .ref 3, .ref 4, .ref 5, .ref 8, .ref 13, .ref 16])) := ⟨_, rfl⟩
  have B0 : B 0 = .inr (0, [.ref 1, .ref 2, .ref 3, .ref 4, .ref 5, .ref 8, .ref 13, .ref 16]) := by rw [hB]; exact mz_u_s _ _ _
  have BF : ∀ q, q ≠ 0 → B q = f_ q := fun q z => by rw [hB]; exact mz_u_n z
  have B1 : B 1 = aQ 4 8 (deckP 0) := by rw [BF 1 (by decide), kF 1 (by decide) (by decide), g1]; rfl
  have B2 : B 2 = aQ 5 4 (boardP 0) := by rw [BF 2 (by decide), kF 2 (by decide) (by decide), g2]; rfl
  refine mz_mono ?_ (l_Office_init1 G B B0 B2 8 0 _ rfl (fun q _ _ => by rw [hB]) (by rw [← hB]; exact B1) (fun j hj => absurd hj (by omega)))
  rintro v n' f' ⟨rfl, rfl, q1, q2, q3, q4, q5⟩
  have r0 : f' 0 = _ := (q1 0 (by decide) (by decide) (by decide)).trans B0
  have rF : ∀ q, q ≠ 0 → q ≠ 1 → q ≠ 2 → (q < 126 ∨ 157 < q) → f' q = f_ q := fun q z0 z1 z2 z3 => (q1 q z1 z2 z3).trans (BF q z0)
  have rK : ∀ q, q ≠ 0 → q ≠ 1 → q ≠ 2 → (q < 13 ∨ 157 < q) → f' q = f1 q := fun q z0 z1 z2 z3 => (rF q z0 z1 z2 (by omega)).trans (kF q z0 (by omega))
  have rp : f' 1000000000001 = mz_d := by rw [rK _ (by decide) (by decide) (by decide) (by decide), gp]; exact hp
  refine ⟨rfl, rfl, ⟨⟨r0, q2, q3, ⟨_, (rK 3 (by decide) (by decide) (by decide) (by decide)).trans g3⟩, ⟨_, _, (rK 4 (by decide) (by decide) (by decide) (by decide)).trans g4⟩, ⟨_, (rK 5 (by decide) (by decide) (by decide) (by decide)).trans g5⟩, ⟨_, (rK 6 (by decide) (by decide) (by decide) (by decide)).trans g6⟩, ⟨_, (rK 7 (by decide) (by decide) (by decide) (by decide)).trans g7⟩, ⟨_, (rK 8 (by decide) (by decide) (by decide) (by decide)).trans b8⟩, Dk0_eq b9 (rK 9 (by decide) (by decide) (by decide) (by decide)) (rK 10 (by decide) (by decide) (by decide) (by decide)), Dk0_eq b11 (rK 11 (by decide) (by decide) (by decide) (by decide)) (rK 12 (by decide) (by decide) (by decide) (by decide)), ?_, ?_, ?_, rp⟩, Tb_eq bT (fun q z1 z2 => rF q (by omega) (by omega) (by omega) (by omega)), q4, q5, ⟨(rK 4 (by decide) (by decide) (by decide) (by decide)).trans g4, (rK 5 (by decide) (by decide) (by decide) (by decide)).trans g5, (rK 8 (by decide) (by decide) (by decide) (by decide)).trans b8⟩, (rF 17 (by decide) (by decide) (by decide) (by decide)).trans b17⟩, rp⟩
  · rw [rF 13 (by decide) (by decide) (by decide) (by decide), jF 13 (by decide) (by decide)]; exact b13
  · rw [rF 14 (by decide) (by decide) (by decide) (by decide), jF 14 (by decide) (by decide)]; exact ⟨_, b14⟩
  · rw [rF 15 (by decide) (by decide) (by decide) (by decide), jF 15 (by decide) (by decide)]; exact b15
end
section
/-! the decks together -/
def s8 (sz : Nat → Nat) : Nat := sz 0 + sz 1 + sz 2 + sz 3 + sz 4 + sz 5 + sz 6 + sz 7
theorem i8 {i : Nat} (h : i < 8) : i = 0 ∨ i = 1 ∨ i = 2 ∨ i = 3 ∨ i = 4 ∨ i = 5 ∨ i = 6 ∨ i = 7 := by omega
theorem s8_up (sz : Nat → Nat) {i : Nat} (hi : i < 8) (v : Nat) : s8 (va_up sz i v) + sz i = s8 sz + v := by
  rcases i8 hi with rfl | rfl | rfl | rfl | rfl | rfl | rfl | rfl <;> simp [s8, va_up] <;> omega
theorem va_up_n {α : Type} {g : Nat → α} {i j : Nat} {v : α} (h : j ≠ i) : va_up g i v j = g j := by simp [va_up, h]
theorem va_up_s {α : Type} {g : Nat → α} {i : Nat} {v : α} : va_up g i v i = v := by simp [va_up]
theorem s8_le (sz : Nat → Nat) {i : Nat} (hi : i < 8) : sz i ≤ s8 sz := by have := s8_up sz hi 0; omega
theorem s8_le2 (sz : Nat → Nat) {i j : Nat} (hi : i < 8) (hj : j < 8) (h : i ≠ j) : sz i + sz j ≤ s8 sz := by
  have h1 := s8_up sz hi 0
  have h2 := s8_up (va_up sz i 0) hj 0
  rw [va_up_n (Ne.symm h)] at h2
  omega
theorem s8_le3 (sz : Nat → Nat) {i j k : Nat} (hi : i < 8) (hj : j < 8) (hk : k < 8) (h : i ≠ j) (h2 : i ≠ k) (h3 : j ≠ k) : sz i + sz j + sz k ≤ s8 sz := by
  have q1 := s8_up sz hi 0
  have q2 := s8_up (va_up sz i 0) hj 0
  have q3 := s8_up (va_up (va_up sz i 0) j 0) hk 0
  rw [va_up_n (Ne.symm h)] at q2
  rw [va_up_n (Ne.symm h3), va_up_n (Ne.symm h2)] at q3
  omega
theorem Dk_mono {f : mz_H} {D A r K K' : Nat} {c : Nat → Nat} (h : Dk f D A r K c) (hK : K ≤ K') : Dk f D A r K' c := by
  obtain ⟨g, e1, e2, e3⟩ := h
  exact ⟨g, e1, e2, Ps_mono e3 hK⟩
theorem Dk0_mono {f : mz_H} {D A r K K' : Nat} (h : ∃ c, Dk f D A r K c) (hK : K ≤ K') : ∃ c, Dk f D A r K' c := by
  obtain ⟨c, h⟩ := h
  exact ⟨c, Dk_mono h hK⟩
theorem CD_one {f F : mz_H} {K K' i r : Nat} {sz c1 : Nat → Nat} {cd : Nat → Nat → Nat} (h : CD f K sz cd) (hi : i < 8) (hK : K ≤ K') (hd : Dk F (126 + 2 * i) (127 + 2 * i) r K' c1) (he : ∀ q, 126 ≤ q → q < 142 → q ≠ 126 + 2 * i → q ≠ 127 + 2 * i → F q = f q) (hs : K + r = K' + sz i) : CD F K' (va_up sz i r) (va_up cd i c1) := by
  refine ⟨fun j hj => ?_, ?_⟩
  · by_cases e : j = i
    · subst e; rw [va_up_s, va_up_s]; exact hd
    · rw [va_up_n e, va_up_n e]; exact Dk_mono (Dk_eq (h.1 j hj) (he _ (by omega) (by omega) (by omega) (by omega)) (he _ (by omega) (by omega) (by omega) (by omega))) hK
  · have h1 : s8 sz = K := h.2
    have h2 := s8_up sz hi r
    show s8 (va_up sz i r) = K'
    omega
theorem CD_two {f F : mz_H} {K i j r1 r2 : Nat} {sz c1 c2 : Nat → Nat} {cd : Nat → Nat → Nat} (h : CD f K sz cd) (hi : i < 8) (hj : j < 8) (hij : i ≠ j) (hd : Dk F (126 + 2 * i) (127 + 2 * i) r1 K c1) (hd2 : Dk F (126 + 2 * j) (127 + 2 * j) r2 K c2) (he : ∀ q, 126 ≤ q → q < 142 → q ≠ 126 + 2 * i → q ≠ 127 + 2 * i → q ≠ 126 + 2 * j → q ≠ 127 + 2 * j → F q = f q) (hs : r1 + r2 = sz i + sz j) : CD F K (va_up (va_up sz i r1) j r2) (va_up (va_up cd i c1) j c2) := by
  refine ⟨fun m hm => ?_, ?_⟩
  · by_cases e : m = j
    · subst e; rw [va_up_s, va_up_s]; exact hd2
    · rw [va_up_n e, va_up_n e]
      by_cases e2 : m = i
      · subst e2; rw [va_up_s, va_up_s]; exact hd
      · rw [va_up_n e2, va_up_n e2]; exact Dk_eq (h.1 m hm) (he _ (by omega) (by omega) (by omega) (by omega) (by omega) (by omega)) (he _ (by omega) (by omega) (by omega) (by omega) (by omega) (by omega))
  · have h1 : s8 sz = K := h.2
    have h2 := s8_up sz hi r1
    have h3 := s8_up (va_up sz i r1) hj r2
    rw [va_up_n (Ne.symm hij)] at h3
    show s8 (va_up (va_up sz i r1) j r2) = K
    omega
theorem CD_three {f F : mz_H} {K i j k r1 r2 r3 : Nat} {sz c1 c2 c3 : Nat → Nat} {cd : Nat → Nat → Nat} (h : CD f K sz cd) (hi : i < 8) (hj : j < 8) (hk : k < 8) (hij : i ≠ j) (hik : i ≠ k) (hjk : j ≠ k) (hd : Dk F (126 + 2 * i) (127 + 2 * i) r1 K c1) (hd2 : Dk F (126 + 2 * j) (127 + 2 * j) r2 K c2) (hd3 : Dk F (126 + 2 * k) (127 + 2 * k) r3 K c3) (he : ∀ q, 126 ≤ q → q < 142 → q ≠ 126 + 2 * i → q ≠ 127 + 2 * i → q ≠ 126 + 2 * j → q ≠ 127 + 2 * j → q ≠ 126 + 2 * k → q ≠ 127 + 2 * k → F q = f q) (hs : r1 + r2 + r3 = sz i + sz j + sz k) : CD F K (va_up (va_up (va_up sz i r1) j r2) k r3) (va_up (va_up (va_up cd i c1) j c2) k c3) := by
  refine ⟨fun m hm => ?_, ?_⟩
  · by_cases e : m = k
    · subst e; rw [va_up_s, va_up_s]; exact hd3
    · rw [va_up_n e, va_up_n e]
      by_cases e2 : m = j
      · subst e2; rw [va_up_s, va_up_s]; exact hd2
      · rw [va_up_n e2, va_up_n e2]
        by_cases e3 : m = i
        · subst e3; rw [va_up_s, va_up_s]; exact hd
        · rw [va_up_n e3, va_up_n e3]; exact Dk_eq (h.1 m hm) (he _ (by omega) (by omega) (by omega) (by omega) (by omega) (by omega) (by omega) (by omega)) (he _ (by omega) (by omega) (by omega) (by omega) (by omega) (by omega) (by omega) (by omega))
  · have h1 : s8 sz = K := h.2
    have h2 := s8_up sz hi r1
    have h3 := s8_up (va_up sz i r1) hj r2
    have h4 := s8_up (va_up (va_up sz i r1) j r2) hk r3
    rw [va_up_n (Ne.symm hij)] at h3
    rw [va_up_n (Ne.symm hjk), va_up_n (Ne.symm hik)] at h4
    show s8 (va_up (va_up (va_up sz i r1) j r2) k r3) = K
    omega
/-- a call that leaves the boards and the tabulator alone -/
theorem CI_mk {f F : mz_H} {K K' x n' : Nat} {sz : Nat → Nat} {cd s : Nat → Nat → Nat} (h3 : CM f K) (hT : Tb f x) (hB : CB f) (c3 : ∃ g, F 3 = aI 16 g) (c4 : ∃ u w, F 4 = .inr (5, [.int u, .int w])) (c5 : ∃ v, F 5 = .inr (9, [.ref 6, .ref 7, .int v])) (c6 : ∃ g, F 6 = aI 11 g) (c7 : ∃ g, F 7 = aQ 6 200 g) (c8 : ∃ br, F 8 = .inr (3, [.ref 9, .ref 11, .int br])) (c9 : ∃ c, Dk F 9 10 0 K' c) (c11 : ∃ c, Dk F 11 12 0 K' c) (c14 : ∃ cl, F 14 = .inr (6, [.int (nI 0), .ref 15, .int cl])) (c15 : ∃ g, F 15 = aI 16 g)
    (he : ∀ q, (q < 3 ∨ q = 13 ∨ (16 ≤ q ∧ q < 126) ∨ (142 ≤ q ∧ q < 172) ∨ q = 1000000000001) → F q = f q) (hD : CD F K' sz cd) (hC : Cd F K' s) (hK : K' ≤ 200) (hn : n' = 172 + 2 * K') : CI F n' K' sz cd s ∧ FrB f F := by
  obtain ⟨a1, a2, a3, -, -, -, -, -, -, -, -, a12, -, -, a15⟩ := h3
  refine ⟨⟨x, hn, hK, ⟨(he 0 (by decide)).trans a1, (he 1 (by decide)).trans a2, (he 2 (by decide)).trans a3, c3, c4, c5, c6, c7, c8, c9, c11, (he 13 (by decide)).trans a12, c14, c15, (he _ (by decide)).trans a15⟩, Tb_eq hT (fun q z1 z2 => he q (by omega)), ?_, hD, hC⟩, fun q z1 z2 => he q (by omega)⟩
  intro i hi
  obtain ⟨w, A, T, L, q1, q2⟩ := hB i hi
  refine ⟨w, A, T, L, ?_, q2⟩
  unfold Bd
  rw [he _ (by omega), he _ (by omega), he _ (by omega), he _ (by omega)]
  exact q1
theorem CI_rf {f : mz_H} {n : Nat} {K : Nat} {sz : Nat → Nat} {cd s : Nat → Nat → Nat} (h : CI f n K sz cd s) : CI f n K sz cd s ∧ FrB f f := ⟨h, fun _ _ _ => rfl⟩
theorem CI_rg {f : mz_H} {n : Nat} {K : Nat} {sz : Nat → Nat} {cd s : Nat → Nat → Nat} (h : CI f n K sz cd s) : CI f n K sz cd s ∧ FrB f f ∧ MU f f no_U := ⟨h, fun _ _ _ => rfl, MU_rf f⟩
theorem CI_3 {P Q R : Prop} (hR : R) (h : P ∧ Q) : P ∧ Q ∧ R := ⟨h.1, h.2, hR⟩
/-- fault's answer -/
def ftV (m : mS) (x : Int32) : Int32 := if x.toInt = 0 then m.1 else if x.toInt = 1 then m.2.1 else -1
def faP (f : mz_H) (n K : Nat) (sz : Nat → Nat) (cd s : Nat → Nat → Nat) (m : mS) (x : Int32) (v : Option Value) (n' : Nat) (f' : mz_H) : Prop := v = some (.int (ftV m x)) ∧ n' = n ∧ CI f' n K sz cd s ∧ FrB f f' ∧ MU f f' no_U
set_option maxRecDepth 20000 in
theorem c_Office_fault (G : mz_G) (n : Nat) (f : mz_H) {x : Int32} {K : Nat} {sz : Nat → Nat} {cd s : Nat → Nat → Nat} (h : CI f n K sz cd s) {m : mS} (hm : MC f m) :
    mz_Ct G mk_P y_Office_fault b_Office_fault 2 (some .int) (r_Office_fault 0 0) [.ref 0, .int x] n f (faP f n K sz cd s m x) := by
  obtain ⟨lx, h1, h2, h3, h4, h5, h6, h7⟩ := id h
  have ho := h3.1
  have hl := hm.1
  refine mk_Ct 0 false [some (.ref 0), some (.int x)] (by decide) rfl (by decide) (Nat.le_of_ble_eq_true rfl) rfl ?_
  refine mz_go [1] 20 ?_
  simp only [mz_r0, mk_lit, mk_fin, mk_cat, mk_fit, mk_nar, mk_cls, mk_ty, mk_isr, List.mem_cons, List.not_mem_nil, or_false, or_true, false_or, true_or, Nat.reduceEqDiff, Nat.reduceAdd, Nat.reduceSub, Nat.reduceLT, Nat.reduceLeDiff, ↓reduceIte, if_true, if_false, List.getElem?_cons_zero, List.getElem?_cons_succ, List.set_cons_zero, List.set_cons_succ, List.length_cons, List.length_nil, mz_s1, mz_s2, mz_cl, true_and, and_true, false_and, and_false, List.append_nil, mk_b0, mk_b1, mk_b2, mk_bn, Value.int.injEq, Option.toList_some, Option.toList_none, List.cons_append, List.nil_append, Classical.not_not, Option.some.injEq, reduceCtorEq, ne_eq, not_true_eq_false, not_false_eq_true, false_implies, true_implies, ev_37, mz_rl d_Office_fault_0, nF_0]
  by_cases q0 : x.toInt = 0
  · refine mz_look (dflt := 43) (ps := #[(0, 27), (1, 35)]) (len := 27) (off := 27) (by simp only [d_Office_fault]) (by decide) (by rw [q0]; decide) (by decide) ?_
    refine mz_go [] 20 ?_
    simp only [show mz_t 1 27 = 28 from rfl]
    simp only [mz_r0, mk_lit, mk_fin, mk_cat, mk_fit, mk_nar, mk_cls, mk_ty, mk_isr, List.mem_cons, List.not_mem_nil, or_false, or_true, false_or, true_or, Nat.reduceEqDiff, Nat.reduceAdd, Nat.reduceSub, Nat.reduceLT, Nat.reduceLeDiff, ↓reduceIte, if_true, if_false, List.getElem?_cons_zero, List.getElem?_cons_succ, List.set_cons_zero, List.set_cons_succ, List.length_cons, List.length_nil, mz_s1, mz_s2, mz_cl, true_and, and_true, false_and, and_false, List.append_nil, mk_b0, mk_b1, mk_b2, mk_bn, Value.int.injEq, Option.toList_some, Option.toList_none, List.cons_append, List.nil_append, Classical.not_not, Option.some.injEq, reduceCtorEq, ne_eq, not_true_eq_false, not_false_eq_true, false_implies, true_implies, ev_41, ev_79, ft_0_3, fn_0_3, ft_5_0, fn_5_0, ev_64, mz_rl d_Office_fault_28, mz_rl d_Office_fault_29, mz_rl d_Office_fault_32, mz_rl d_Office_fault_35, nF_0, ho, hl]
    exact ⟨by unfold ftV; rw [if_pos q0], rfl, h, fun _ _ _ => rfl, MU_rf f⟩
  · by_cases q1 : x.toInt = 1
    · refine mz_look (dflt := 43) (ps := #[(0, 27), (1, 35)]) (len := 27) (off := 35) (by simp only [d_Office_fault]) (by decide) (by rw [q1]; decide) (by decide) ?_
      refine mz_go [] 20 ?_
      simp only [show mz_t 1 35 = 36 from rfl]
      simp only [mz_r0, mk_lit, mk_fin, mk_cat, mk_fit, mk_nar, mk_cls, mk_ty, mk_isr, List.mem_cons, List.not_mem_nil, or_false, or_true, false_or, true_or, Nat.reduceEqDiff, Nat.reduceAdd, Nat.reduceSub, Nat.reduceLT, Nat.reduceLeDiff, ↓reduceIte, if_true, if_false, List.getElem?_cons_zero, List.getElem?_cons_succ, List.set_cons_zero, List.set_cons_succ, List.length_cons, List.length_nil, mz_s1, mz_s2, mz_cl, true_and, and_true, false_and, and_false, List.append_nil, mk_b0, mk_b1, mk_b2, mk_bn, Value.int.injEq, Option.toList_some, Option.toList_none, List.cons_append, List.nil_append, Classical.not_not, Option.some.injEq, reduceCtorEq, ne_eq, not_true_eq_false, not_false_eq_true, false_implies, true_implies, ev_41, ev_79, ft_0_3, fn_0_3, ft_5_1, fn_5_1, ev_64, mz_rl d_Office_fault_36, mz_rl d_Office_fault_37, mz_rl d_Office_fault_40, mz_rl d_Office_fault_43, nF_0, ho, hl]
      exact ⟨by unfold ftV; rw [if_neg q0, if_pos q1], rfl, h, fun _ _ _ => rfl, MU_rf f⟩
    · refine mz_look (dflt := 43) (ps := #[(0, 27), (1, 35)]) (len := 27) (off := 43) (by simp only [d_Office_fault]) (by decide) (by simp [Op.lookupswitch.offset, Ne.symm q0, Ne.symm q1]) (by decide) ?_
      refine mz_go [] 20 ?_
      simp only [show mz_t 1 43 = 44 from rfl]
      simp only [mz_r0, mk_lit, mk_fin, mk_cat, mk_fit, mk_nar, mk_cls, mk_ty, mk_isr, List.mem_cons, List.not_mem_nil, or_false, or_true, false_or, true_or, Nat.reduceEqDiff, Nat.reduceAdd, Nat.reduceSub, Nat.reduceLT, Nat.reduceLeDiff, ↓reduceIte, if_true, if_false, List.getElem?_cons_zero, List.getElem?_cons_succ, List.set_cons_zero, List.set_cons_succ, List.length_cons, List.length_nil, mz_s1, mz_s2, mz_cl, true_and, and_true, false_and, and_false, List.append_nil, mk_b0, mk_b1, mk_b2, mk_bn, Value.int.injEq, Option.toList_some, Option.toList_none, List.cons_append, List.nil_append, Classical.not_not, Option.some.injEq, reduceCtorEq, ne_eq, not_true_eq_false, not_false_eq_true, false_implies, true_implies, ev_0, ev_64, mz_rl d_Office_fault_44, mz_rl d_Office_fault_45, nF_0]
      exact ⟨by unfold ftV; rw [if_neg q0, if_neg q1], rfl, h, fun _ _ _ => rfl, MU_rf f⟩
def ps8 (sz : Nat → Nat) : Nat → Nat
  | 0 => 0
  | i + 1 => ps8 sz i + sz i
theorem l_Office_cardsInAll (G : mz_G) (n : Nat) (f : mz_H) {K : Nat} {sz : Nat → Nat} {cd : Nat → Nat → Nat} (ho : f 0 = .inr (0, [.ref 1, .ref 2, .ref 3, .ref 4, .ref 5, .ref 8, .ref 13, .ref 16])) (hq : f 1 = aQ 4 8 deckQ) (hD : CD f K sz cd) :
    ∀ m i, i + m = 8 → mz_X G mk_P 0 false b_Office_cardsInAll 3 (some .int) (r_Office_cardsInAll 0 0) (fun v n' f' => v = some (.int (nI K)) ∧ n' = n ∧ f' = f) (fun _ _ _ => False) 4 [some (.ref 0), some (.int (nI (ps8 sz i))), some (.int (nI i))] [] 0 0 n f := by
  intro m
  induction m with
  | zero =>
    intro i hi
    have : i = 8 := by omega
    subst this
    refine mz_go [4] 30 ?_
    simp only [mz_r0, mk_lit, mk_fin, mk_cat, mk_fit, mk_nar, mk_cls, mk_ty, mk_isr, List.mem_cons, List.not_mem_nil, or_false, or_true, false_or, true_or, Nat.reduceEqDiff, Nat.reduceAdd, Nat.reduceSub, Nat.reduceLT, Nat.reduceLeDiff, ↓reduceIte, if_true, if_false, List.getElem?_cons_zero, List.getElem?_cons_succ, List.set_cons_zero, List.set_cons_succ, List.length_cons, List.length_nil, mz_s1, mz_s2, mz_cl, true_and, and_true, false_and, and_false, List.append_nil, mk_b0, mk_b1, mk_b2, mk_bn, Value.int.injEq, Option.toList_some, Option.toList_none, List.cons_append, List.nil_append, Classical.not_not, Option.some.injEq, reduceCtorEq, ne_eq, not_true_eq_false, not_false_eq_true, false_implies, true_implies, ev_37, ev_1, ev_56, ev_41, ev_79, ft_0_0, fn_0_0, ev_76, ft_4_1, fn_4_1, ev_5, ev_43, ev_48, ev_61, ev_64, mz_rl d_Office_cardsInAll_4, mz_rl d_Office_cardsInAll_5, mz_rl d_Office_cardsInAll_7, mz_rl d_Office_cardsInAll_10, mz_rl d_Office_cardsInAll_11, mz_rl d_Office_cardsInAll_12, mz_rl d_Office_cardsInAll_15, mz_rl d_Office_cardsInAll_16, mz_rl d_Office_cardsInAll_17, mz_rl d_Office_cardsInAll_20, mz_rl d_Office_cardsInAll_21, mz_rl d_Office_cardsInAll_22, mz_rl d_Office_cardsInAll_25, mz_rl d_Office_cardsInAll_28, mz_rl d_Office_cardsInAll_29, j_Office_cardsInAll_7, j_Office_cardsInAll_25, nF_0, nI_leI (show 8 < 2 ^ 31 by omega) (show 8 < 2 ^ 31 by omega), Nat.le_refl]
    have : ps8 sz 8 = K := by have := hD.2; simp only [ps8]; omega
    rw [this]
  | succ m ih =>
    intro i hi
    obtain ⟨g, e1, e2, e3⟩ := hD.1 i (by omega)
    refine mz_go [4] 30 ?_
    simp only [mz_r0, mk_lit, mk_fin, mk_cat, mk_fit, mk_nar, mk_cls, mk_ty, mk_isr, List.mem_cons, List.not_mem_nil, or_false, or_true, false_or, true_or, Nat.reduceEqDiff, Nat.reduceAdd, Nat.reduceSub, Nat.reduceLT, Nat.reduceLeDiff, ↓reduceIte, if_true, if_false, List.getElem?_cons_zero, List.getElem?_cons_succ, List.set_cons_zero, List.set_cons_succ, List.length_cons, List.length_nil, mz_s1, mz_s2, mz_cl, true_and, and_true, false_and, and_false, List.append_nil, mk_b0, mk_b1, mk_b2, mk_bn, Value.int.injEq, Option.toList_some, Option.toList_none, List.cons_append, List.nil_append, Classical.not_not, Option.some.injEq, reduceCtorEq, ne_eq, not_true_eq_false, not_false_eq_true, false_implies, true_implies, ev_37, ev_1, ev_56, ev_41, ev_79, ft_0_0, fn_0_0, ev_76, ft_4_1, fn_4_1, ev_5, ev_43, ev_48, ev_61, ev_64, mz_rl d_Office_cardsInAll_4, mz_rl d_Office_cardsInAll_5, mz_rl d_Office_cardsInAll_7, mz_rl d_Office_cardsInAll_10, mz_rl d_Office_cardsInAll_11, mz_rl d_Office_cardsInAll_12, mz_rl d_Office_cardsInAll_15, mz_rl d_Office_cardsInAll_16, mz_rl d_Office_cardsInAll_17, mz_rl d_Office_cardsInAll_20, mz_rl d_Office_cardsInAll_21, mz_rl d_Office_cardsInAll_22, mz_rl d_Office_cardsInAll_25, mz_rl d_Office_cardsInAll_28, mz_rl d_Office_cardsInAll_29, j_Office_cardsInAll_7, j_Office_cardsInAll_25, nF_0, nI_leI (show 8 < 2 ^ 31 by omega) (show i < 2 ^ 31 by omega), show ¬ 8 ≤ i by omega, ho, hq, vp_in_nI (show i < 8 by omega) (show 8 < 2 ^ 31 by decide), nI_clamp (show i < 2 ^ 31 by omega), deckQ_at (show i < 8 by omega), va_rf, e1, nI_add]
    exact ih (i + 1) (by omega)
theorem c_Office_cardsInAll (G : mz_G) (n : Nat) (f : mz_H) {K : Nat} {sz : Nat → Nat} {cd : Nat → Nat → Nat} (ho : f 0 = .inr (0, [.ref 1, .ref 2, .ref 3, .ref 4, .ref 5, .ref 8, .ref 13, .ref 16])) (hq : f 1 = aQ 4 8 deckQ) (hD : CD f K sz cd) :
    mz_Ct G mk_P y_Office_cardsInAll b_Office_cardsInAll 3 (some .int) (r_Office_cardsInAll 0 0) [.ref 0] n f (fun v n' f' => v = some (.int (nI K)) ∧ n' = n ∧ f' = f) := by
  refine mk_Ct 0 false [some (.ref 0), none, none] (by decide) rfl (by decide) (Nat.le_of_ble_eq_true rfl) rfl ?_
  refine mz_go [4] 30 ?_
  simp only [mz_r0, mk_lit, mk_fin, mk_cat, mk_fit, mk_nar, mk_cls, mk_ty, mk_isr, List.mem_cons, List.not_mem_nil, or_false, or_true, false_or, true_or, Nat.reduceEqDiff, Nat.reduceAdd, Nat.reduceSub, Nat.reduceLT, Nat.reduceLeDiff, ↓reduceIte, if_true, if_false, List.getElem?_cons_zero, List.getElem?_cons_succ, List.set_cons_zero, List.set_cons_succ, List.length_cons, List.length_nil, mz_s1, mz_s2, mz_cl, true_and, and_true, false_and, and_false, List.append_nil, mk_b0, mk_b1, mk_b2, mk_bn, Value.int.injEq, Option.toList_some, Option.toList_none, List.cons_append, List.nil_append, Classical.not_not, Option.some.injEq, reduceCtorEq, ne_eq, not_true_eq_false, not_false_eq_true, false_implies, true_implies, ev_0, ev_43, mz_rl d_Office_cardsInAll_0, mz_rl d_Office_cardsInAll_1, mz_rl d_Office_cardsInAll_2, mz_rl d_Office_cardsInAll_3, nF_0]
  exact l_Office_cardsInAll G n f ho hq hD 8 0 rfl
/-- count's answer -/
def ctV (K : Nat) (sz W : Nat → Nat) (m : mS) (ln : Nat) (x : Int32) : Int32 := if 0 ≤ x.toInt ∧ x.toInt < 8 then nI (sz x.toNatClampNeg) else if 10 ≤ x.toInt ∧ x.toInt < 14 then nI (W (x.toNatClampNeg - 10)) else if x.toInt = 8 then nI K else if x.toInt = 9 then nI ln else if x.toInt = 14 then m.2.2.1 else if x.toInt = 15 then m.2.2.2 else -1
theorem ctV_d {K : Nat} {sz W : Nat → Nat} {m : mS} {ln i : Nat} (hi : i < 8) : ctV K sz W m ln (nI i) = nI (sz i) := by
  unfold ctV
  rw [if_pos (by rw [mk_nti (show i < 2 ^ 31 by omega)]; omega), nI_clamp (by omega)]
theorem ctV_b {K : Nat} {sz W : Nat → Nat} {m : mS} {ln i : Nat} (hi : i < 4) : ctV K sz W m ln (nI (i + 10)) = nI (W i) := by
  unfold ctV
  rw [if_neg (by rw [mk_nti (show i + 10 < 2 ^ 31 by omega)]; omega), if_pos (by rw [mk_nti (show i + 10 < 2 ^ 31 by omega)]; omega), nI_clamp (by omega)]
  rw [Nat.add_sub_cancel]
theorem ctV_8 {K : Nat} {sz W : Nat → Nat} {m : mS} {ln : Nat} : ctV K sz W m ln (nI 8) = nI K := by
  unfold ctV
  rw [if_neg (by decide +kernel), if_neg (by decide +kernel), if_pos (by decide +kernel)]
theorem ctV_9 {K : Nat} {sz W : Nat → Nat} {m : mS} {ln : Nat} : ctV K sz W m ln (nI 9) = nI ln := by
  unfold ctV
  rw [if_neg (by decide +kernel), if_neg (by decide +kernel), if_neg (by decide +kernel), if_pos (by decide +kernel)]
theorem ctV_14 {K : Nat} {sz W : Nat → Nat} {m : mS} {ln : Nat} : ctV K sz W m ln (nI 14) = m.2.2.1 := by
  unfold ctV
  rw [if_neg (by decide +kernel), if_neg (by decide +kernel), if_neg (by decide +kernel), if_neg (by decide +kernel), if_pos (by decide +kernel)]
theorem ctV_15 {K : Nat} {sz W : Nat → Nat} {m : mS} {ln : Nat} : ctV K sz W m ln (nI 15) = m.2.2.2 := by
  unfold ctV
  rw [if_neg (by decide +kernel), if_neg (by decide +kernel), if_neg (by decide +kernel), if_neg (by decide +kernel), if_neg (by decide +kernel), if_pos (by decide +kernel)]
theorem ctV_o {K : Nat} {sz W : Nat → Nat} {m : mS} {ln : Nat} {x : Int32} (h : x.toInt < 0 ∨ 15 < x.toInt) : ctV K sz W m ln x = -1 := by
  unfold ctV
  rw [if_neg (by omega), if_neg (by omega), if_neg (by omega), if_neg (by omega), if_neg (by omega), if_neg (by omega)]
def cuP (f : mz_H) (n K : Nat) (sz : Nat → Nat) (cd s : Nat → Nat → Nat) (B : bS) (m : mS) (u : tT) (x : Int32) (v : Option Value) (n' : Nat) (f' : mz_H) : Prop := v = some (.int (ctV K sz B.1 m u.2.1 x)) ∧ n' = n ∧ CI f' n K sz cd s ∧ FrB f f' ∧ MU f f' no_U
set_option maxRecDepth 20000 in
theorem c_Office_count (G : mz_G) (n : Nat) (f : mz_H) {x : Int32} {K : Nat} {sz : Nat → Nat} {cd s : Nat → Nat → Nat} (h : CI f n K sz cd s) {B : bS} (hB : BX f B) {m : mS} (hm : MC f m) {u : tT} (hX : TT f u) :
    mz_Ct G mk_P y_Office_count b_Office_count 2 (some .int) (r_Office_count 0 0) [.ref 0, .int x] n f (cuP f n K sz cd s B m u x) := by
  obtain ⟨lx, h1, h2, h3, h4, h5, h6, h7⟩ := id h
  have ho := h3.1
  have hq := h3.2.1
  have hb := h3.2.2.1
  have h16 := h4.1
  have h18 := hX.2.1
  have k5 := hm.2.1
  have k8 := hm.2.2
  have fin : ∀ r, r = ctV K sz B.1 m u.2.1 x → cuP f n K sz cd s B m u x (some (.int r)) n f := fun r e => ⟨by rw [e], rfl, h, fun _ _ _ => rfl, MU_rf f⟩
  refine mk_Ct 0 false [some (.ref 0), some (.int x)] (by decide) rfl (by decide) (Nat.le_of_ble_eq_true rfl) rfl ?_
  refine mz_go [1] 20 ?_
  simp only [mz_r0, mk_lit, mk_fin, mk_cat, mk_fit, mk_nar, mk_cls, mk_ty, mk_isr, List.mem_cons, List.not_mem_nil, or_false, or_true, false_or, true_or, Nat.reduceEqDiff, Nat.reduceAdd, Nat.reduceSub, Nat.reduceLT, Nat.reduceLeDiff, ↓reduceIte, if_true, if_false, List.getElem?_cons_zero, List.getElem?_cons_succ, List.set_cons_zero, List.set_cons_succ, List.length_cons, List.length_nil, mz_s1, mz_s2, mz_cl, true_and, and_true, false_and, and_false, List.append_nil, mk_b0, mk_b1, mk_b2, mk_bn, Value.int.injEq, Option.toList_some, Option.toList_none, List.cons_append, List.nil_append, Classical.not_not, Option.some.injEq, reduceCtorEq, ne_eq, not_true_eq_false, not_false_eq_true, false_implies, true_implies, ev_37, mz_rl d_Office_count_0, nF_0]
  refine mz_callS (by simp only [d_Office_count_1, Nat.reduceAdd]) g_0_62 rfl (fun _ _ h => h) (c_Office_isDeck G mk_P n f x) (by decide) (Nat.le_of_ble_eq_true rfl) rfl ?_; intro v_ n_ f_ h_; obtain ⟨rfl, hn_, hf_⟩ := h_; replace hn_ := hn_.symm; replace hf_ := hf_.symm; subst hn_; subst hf_
  by_cases hx : 0 ≤ x.toInt ∧ x.toInt < 8
  · obtain ⟨i, hi, rfl⟩ := mk_nat (N := 8) hx.1 hx.2 (by decide)
    obtain ⟨g, e1, e2, e3⟩ := h6.1 i hi
    refine mz_go [] 20 ?_
    simp only [mz_r0, mk_lit, mk_fin, mk_cat, mk_fit, mk_nar, mk_cls, mk_ty, mk_isr, List.mem_cons, List.not_mem_nil, or_false, or_true, false_or, true_or, Nat.reduceEqDiff, Nat.reduceAdd, Nat.reduceSub, Nat.reduceLT, Nat.reduceLeDiff, ↓reduceIte, if_true, if_false, List.getElem?_cons_zero, List.getElem?_cons_succ, List.set_cons_zero, List.set_cons_succ, List.length_cons, List.length_nil, mz_s1, mz_s2, mz_cl, true_and, and_true, false_and, and_false, List.append_nil, mk_b0, mk_b1, mk_b2, mk_bn, Value.int.injEq, Option.toList_some, Option.toList_none, List.cons_append, List.nil_append, Classical.not_not, Option.some.injEq, reduceCtorEq, ne_eq, not_true_eq_false, not_false_eq_true, false_implies, true_implies, ev_49, ev_41, ev_79, ft_0_0, fn_0_0, ev_37, ev_76, ft_4_1, fn_4_1, ev_64, ev_1, ev_6, mz_rl d_Office_count_4, mz_rl d_Office_count_7, mz_rl d_Office_count_8, mz_rl d_Office_count_11, mz_rl d_Office_count_12, mz_rl d_Office_count_13, mz_rl d_Office_count_16, mz_rl d_Office_count_17, mz_rl d_Office_count_18, mz_rl d_Office_count_20, mz_rl d_Office_count_21, j_Office_count_4, nF_0, eq_true hx, ho, hq, vp_in_nI hi (show 8 < 2 ^ 31 by decide), nI_clamp (show i < 2 ^ 31 by omega), deckQ_at hi, va_rf, e1]
    exact fin _ (ctV_d hi).symm
  · refine mz_go [21] 20 ?_
    simp only [mz_r0, mk_lit, mk_fin, mk_cat, mk_fit, mk_nar, mk_cls, mk_ty, mk_isr, List.mem_cons, List.not_mem_nil, or_false, or_true, false_or, true_or, Nat.reduceEqDiff, Nat.reduceAdd, Nat.reduceSub, Nat.reduceLT, Nat.reduceLeDiff, ↓reduceIte, if_true, if_false, List.getElem?_cons_zero, List.getElem?_cons_succ, List.set_cons_zero, List.set_cons_succ, List.length_cons, List.length_nil, mz_s1, mz_s2, mz_cl, true_and, and_true, false_and, and_false, List.append_nil, mk_b0, mk_b1, mk_b2, mk_bn, Value.int.injEq, Option.toList_some, Option.toList_none, List.cons_append, List.nil_append, Classical.not_not, Option.some.injEq, reduceCtorEq, ne_eq, not_true_eq_false, not_false_eq_true, false_implies, true_implies, ev_49, ev_41, ev_79, ft_0_0, fn_0_0, ev_37, ev_76, ft_4_1, fn_4_1, ev_64, ev_1, ev_6, mz_rl d_Office_count_4, mz_rl d_Office_count_7, mz_rl d_Office_count_8, mz_rl d_Office_count_11, mz_rl d_Office_count_12, mz_rl d_Office_count_13, mz_rl d_Office_count_16, mz_rl d_Office_count_17, mz_rl d_Office_count_18, mz_rl d_Office_count_20, j_Office_count_4, nF_0, eq_false hx]
    refine mz_callS (by simp only [d_Office_count_21, Nat.reduceAdd]) g_0_84 rfl (fun _ _ h => h) (c_Office_isBoard G mk_P n f (x - nI 10)) (by decide) (Nat.le_of_ble_eq_true rfl) rfl ?_; intro v_ n_ f_ h_; obtain ⟨rfl, hn_, hf_⟩ := h_; replace hn_ := hn_.symm; replace hf_ := hf_.symm; subst hn_; subst hf_
    by_cases hy : 0 ≤ (x - nI 10).toInt ∧ (x - nI 10).toInt < 4
    · obtain ⟨i, hi, hxi⟩ := mk_nat (N := 4) hy.1 hy.2 (by decide)
      have q1 := hB i hi
      have ex : x = nI (i + 10) := by rw [← nI_add, ← hxi]; exact (Int32.sub_add_cancel x (nI 10)).symm
      have hy' := hy
      rw [hxi] at hy'
      refine mz_go [] 20 ?_
      simp only [mz_r0, mk_lit, mk_fin, mk_cat, mk_fit, mk_nar, mk_cls, mk_ty, mk_isr, List.mem_cons, List.not_mem_nil, or_false, or_true, false_or, true_or, Nat.reduceEqDiff, Nat.reduceAdd, Nat.reduceSub, Nat.reduceLT, Nat.reduceLeDiff, ↓reduceIte, if_true, if_false, List.getElem?_cons_zero, List.getElem?_cons_succ, List.set_cons_zero, List.set_cons_succ, List.length_cons, List.length_nil, mz_s1, mz_s2, mz_cl, true_and, and_true, false_and, and_false, List.append_nil, mk_b0, mk_b1, mk_b2, mk_bn, Value.int.injEq, Option.toList_some, Option.toList_none, List.cons_append, List.nil_append, Classical.not_not, Option.some.injEq, reduceCtorEq, ne_eq, not_true_eq_false, not_false_eq_true, false_implies, true_implies, ev_49, ev_41, ev_79, ft_0_1, fn_0_1, ev_37, ev_1, ev_6, ev_76, ft_1_3, fn_1_3, ev_64, mz_rl d_Office_count_24, mz_rl d_Office_count_27, mz_rl d_Office_count_28, mz_rl d_Office_count_31, mz_rl d_Office_count_32, mz_rl d_Office_count_34, mz_rl d_Office_count_35, mz_rl d_Office_count_36, mz_rl d_Office_count_39, mz_rl d_Office_count_40, mz_rl d_Office_count_41, j_Office_count_24, nF_0, eq_true hy, eq_true hy', ho, hb, hxi, vp_in_nI hi (show 4 < 2 ^ 31 by decide), nI_clamp (show i < 2 ^ 31 by omega), boardQ_at hi, va_rf, q1.1]
      exact fin _ (by rw [ex]; exact (ctV_b hi).symm)
    · refine mz_go [41] 20 ?_
      simp only [mz_r0, mk_lit, mk_fin, mk_cat, mk_fit, mk_nar, mk_cls, mk_ty, mk_isr, List.mem_cons, List.not_mem_nil, or_false, or_true, false_or, true_or, Nat.reduceEqDiff, Nat.reduceAdd, Nat.reduceSub, Nat.reduceLT, Nat.reduceLeDiff, ↓reduceIte, if_true, if_false, List.getElem?_cons_zero, List.getElem?_cons_succ, List.set_cons_zero, List.set_cons_succ, List.length_cons, List.length_nil, mz_s1, mz_s2, mz_cl, true_and, and_true, false_and, and_false, List.append_nil, mk_b0, mk_b1, mk_b2, mk_bn, Value.int.injEq, Option.toList_some, Option.toList_none, List.cons_append, List.nil_append, Classical.not_not, Option.some.injEq, reduceCtorEq, ne_eq, not_true_eq_false, not_false_eq_true, false_implies, true_implies, ev_49, ev_41, ev_79, ft_0_1, fn_0_1, ev_37, ev_1, ev_6, ev_76, ft_1_3, fn_1_3, ev_64, mz_rl d_Office_count_24, mz_rl d_Office_count_27, mz_rl d_Office_count_28, mz_rl d_Office_count_31, mz_rl d_Office_count_32, mz_rl d_Office_count_34, mz_rl d_Office_count_35, mz_rl d_Office_count_36, mz_rl d_Office_count_39, mz_rl d_Office_count_40, j_Office_count_24, nF_0, eq_false hy]
      have hdf : ctV K sz B.1 m u.2.1 x = -1 → mz_X G mk_P 0 false b_Office_count 2 (some .int) (r_Office_count 0 0) (cuP f n K sz cd s B m u x) (fun _ _ _ => False) 120 [some (.ref 0), some (.int x)] [] 0 0 n f := by
        intro e
        refine mz_go [] 20 ?_
        simp only [mz_r0, mk_lit, mk_fin, mk_cat, mk_fit, mk_nar, mk_cls, mk_ty, mk_isr, List.mem_cons, List.not_mem_nil, or_false, or_true, false_or, true_or, Nat.reduceEqDiff, Nat.reduceAdd, Nat.reduceSub, Nat.reduceLT, Nat.reduceLeDiff, ↓reduceIte, if_true, if_false, List.getElem?_cons_zero, List.getElem?_cons_succ, List.set_cons_zero, List.set_cons_succ, List.length_cons, List.length_nil, mz_s1, mz_s2, mz_cl, true_and, and_true, false_and, and_false, List.append_nil, mk_b0, mk_b1, mk_b2, mk_bn, Value.int.injEq, Option.toList_some, Option.toList_none, List.cons_append, List.nil_append, Classical.not_not, Option.some.injEq, reduceCtorEq, ne_eq, not_true_eq_false, not_false_eq_true, false_implies, true_implies, ev_0, ev_64, mz_rl d_Office_count_120, mz_rl d_Office_count_121, nF_0]
        exact fin _ e.symm
      refine mz_table (dflt := 79) (lo := 8) (hi := 15) (offs := #[47, 52, 79, 79, 79, 79, 63, 71]) (len := 47) (by simp only [d_Office_count]) (fun zo => ⟨by decide, hdf (ctV_o (by omega))⟩) (fun z1 z2 => ?_)
      obtain ⟨j, hj, rfl⟩ := mk_nat (x := x) (N := 16) (by omega) (by omega) (by decide)
      rw [mk_nti (show j < 2 ^ 31 by omega)] at z1 z2 ⊢
      have : j = 8 ∨ j = 9 ∨ j = 10 ∨ j = 11 ∨ j = 12 ∨ j = 13 ∨ j = 14 ∨ j = 15 := by omega
      rcases this with rfl | rfl | rfl | rfl | rfl | rfl | rfl | rfl
      · refine ⟨47, by decide, by decide, ?_⟩
        simp only [show mz_t 41 47 = 88 from rfl]
        refine mz_go [89] 20 ?_
        simp only [mz_r0, mk_lit, mk_fin, mk_cat, mk_fit, mk_nar, mk_cls, mk_ty, mk_isr, List.mem_cons, List.not_mem_nil, or_false, or_true, false_or, true_or, Nat.reduceEqDiff, Nat.reduceAdd, Nat.reduceSub, Nat.reduceLT, Nat.reduceLeDiff, ↓reduceIte, if_true, if_false, List.getElem?_cons_zero, List.getElem?_cons_succ, List.set_cons_zero, List.set_cons_succ, List.length_cons, List.length_nil, mz_s1, mz_s2, mz_cl, true_and, and_true, false_and, and_false, List.append_nil, mk_b0, mk_b1, mk_b2, mk_bn, Value.int.injEq, Option.toList_some, Option.toList_none, List.cons_append, List.nil_append, Classical.not_not, Option.some.injEq, reduceCtorEq, ne_eq, not_true_eq_false, not_false_eq_true, false_implies, true_implies, ev_41, mz_rl d_Office_count_88, nF_0]
        refine mz_callV (by simp only [d_Office_count_89, Nat.reduceAdd]) g_0_66 rfl (fun _ _ h => h) (c_Office_cardsInAll G n f ho hq h6) ho rfl rfl (by decide) (Nat.le_of_ble_eq_true rfl) rfl ?_; intro v_ n_ f_ h_; obtain ⟨rfl, hn_, hf_⟩ := h_; replace hn_ := hn_.symm; replace hf_ := hf_.symm; subst hn_; subst hf_
        refine mz_go [] 20 ?_
        simp only [mz_r0, mk_lit, mk_fin, mk_cat, mk_fit, mk_nar, mk_cls, mk_ty, mk_isr, List.mem_cons, List.not_mem_nil, or_false, or_true, false_or, true_or, Nat.reduceEqDiff, Nat.reduceAdd, Nat.reduceSub, Nat.reduceLT, Nat.reduceLeDiff, ↓reduceIte, if_true, if_false, List.getElem?_cons_zero, List.getElem?_cons_succ, List.set_cons_zero, List.set_cons_succ, List.length_cons, List.length_nil, mz_s1, mz_s2, mz_cl, true_and, and_true, false_and, and_false, List.append_nil, mk_b0, mk_b1, mk_b2, mk_bn, Value.int.injEq, Option.toList_some, Option.toList_none, List.cons_append, List.nil_append, Classical.not_not, Option.some.injEq, reduceCtorEq, ne_eq, not_true_eq_false, not_false_eq_true, false_implies, true_implies, ev_64, mz_rl d_Office_count_92, nF_0]
        exact fin _ ctV_8.symm
      · refine ⟨52, by decide, by decide, ?_⟩
        simp only [show mz_t 41 52 = 93 from rfl]
        refine mz_go [] 20 ?_
        simp only [mz_r0, mk_lit, mk_fin, mk_cat, mk_fit, mk_nar, mk_cls, mk_ty, mk_isr, List.mem_cons, List.not_mem_nil, or_false, or_true, false_or, true_or, Nat.reduceEqDiff, Nat.reduceAdd, Nat.reduceSub, Nat.reduceLT, Nat.reduceLeDiff, ↓reduceIte, if_true, if_false, List.getElem?_cons_zero, List.getElem?_cons_succ, List.set_cons_zero, List.set_cons_succ, List.length_cons, List.length_nil, mz_s1, mz_s2, mz_cl, true_and, and_true, false_and, and_false, List.append_nil, mk_b0, mk_b1, mk_b2, mk_bn, Value.int.injEq, Option.toList_some, Option.toList_none, List.cons_append, List.nil_append, Classical.not_not, Option.some.injEq, reduceCtorEq, ne_eq, not_true_eq_false, not_false_eq_true, false_implies, true_implies, ev_41, ev_79, ft_0_7, fn_0_7, ft_10_1, fn_10_1, ft_7_1, fn_7_1, ev_64, mz_rl d_Office_count_93, mz_rl d_Office_count_94, mz_rl d_Office_count_97, mz_rl d_Office_count_100, mz_rl d_Office_count_103, nF_0, ho, h16, h18]
        exact fin _ ctV_9.symm
      · exact absurd (by decide +kernel) hy
      · exact absurd (by decide +kernel) hy
      · exact absurd (by decide +kernel) hy
      · exact absurd (by decide +kernel) hy
      · refine ⟨63, by decide, by decide, ?_⟩
        simp only [show mz_t 41 63 = 104 from rfl]
        refine mz_go [] 20 ?_
        simp only [mz_r0, mk_lit, mk_fin, mk_cat, mk_fit, mk_nar, mk_cls, mk_ty, mk_isr, List.mem_cons, List.not_mem_nil, or_false, or_true, false_or, true_or, Nat.reduceEqDiff, Nat.reduceAdd, Nat.reduceSub, Nat.reduceLT, Nat.reduceLeDiff, ↓reduceIte, if_true, if_false, List.getElem?_cons_zero, List.getElem?_cons_succ, List.set_cons_zero, List.set_cons_succ, List.length_cons, List.length_nil, mz_s1, mz_s2, mz_cl, true_and, and_true, false_and, and_false, List.append_nil, mk_b0, mk_b1, mk_b2, mk_bn, Value.int.injEq, Option.toList_some, Option.toList_none, List.cons_append, List.nil_append, Classical.not_not, Option.some.injEq, reduceCtorEq, ne_eq, not_true_eq_false, not_false_eq_true, false_implies, true_implies, ev_41, ev_79, ft_0_4, fn_0_4, ft_9_2, fn_9_2, ev_64, mz_rl d_Office_count_104, mz_rl d_Office_count_105, mz_rl d_Office_count_108, mz_rl d_Office_count_111, nF_0, ho, k5]
        exact fin _ ctV_14.symm
      · refine ⟨71, by decide, by decide, ?_⟩
        simp only [show mz_t 41 71 = 112 from rfl]
        refine mz_go [] 20 ?_
        simp only [mz_r0, mk_lit, mk_fin, mk_cat, mk_fit, mk_nar, mk_cls, mk_ty, mk_isr, List.mem_cons, List.not_mem_nil, or_false, or_true, false_or, true_or, Nat.reduceEqDiff, Nat.reduceAdd, Nat.reduceSub, Nat.reduceLT, Nat.reduceLeDiff, ↓reduceIte, if_true, if_false, List.getElem?_cons_zero, List.getElem?_cons_succ, List.set_cons_zero, List.set_cons_succ, List.length_cons, List.length_nil, mz_s1, mz_s2, mz_cl, true_and, and_true, false_and, and_false, List.append_nil, mk_b0, mk_b1, mk_b2, mk_bn, Value.int.injEq, Option.toList_some, Option.toList_none, List.cons_append, List.nil_append, Classical.not_not, Option.some.injEq, reduceCtorEq, ne_eq, not_true_eq_false, not_false_eq_true, false_implies, true_implies, ev_41, ev_79, ft_0_5, fn_0_5, ft_3_2, fn_3_2, ev_64, mz_rl d_Office_count_112, mz_rl d_Office_count_113, mz_rl d_Office_count_116, mz_rl d_Office_count_119, nF_0, ho, k8]
        exact fin _ ctV_15.symm
end
section
/-- the sign codes of a long, as the class takes them -/
def byC (L : Int64) (i : Nat) : Int32 := (L.toUInt64 >>> ((nI (56 - 8 * i)).toInt64.toUInt64 &&& Int64.toUInt64 63)).toInt64.toInt32 &&& nI 255
def sgI (x : Int32) : Prop := x.toInt = 32 ∨ 48 ≤ x.toInt ∧ x.toInt ≤ 57 ∨ 65 ≤ x.toInt ∧ x.toInt ≤ 90
abbrev rcPost (n : Nat) (f : mz_H) (fc : Nat) (L : Int64) (t0 : Nat → Int32) (v : Option Value) (n' : Nat) (f' : mz_H) : Prop := ∃ (r : Bool) (t : Nat → Int32), v = some (.int (mk_b (r = true))) ∧ n' = n ∧ f' = mz_u f 3 (aI 16 t) ∧ (∀ j, j < fc → t j = t0 j) ∧ (r = true ↔ ∀ k, k < 8 → sgI (byC L k)) ∧ (r = true → ∀ k, k < 8 → t (fc + k) = byC L k)
theorem l_Office_readColumns (G : mz_G) (n : Nat) (f : mz_H) {fc : Nat} {L : Int64} {t0 : Nat → Int32} (hfc : fc ≤ 8) (ho : f 0 = .inr (0, [.ref 1, .ref 2, .ref 3, .ref 4, .ref 5, .ref 8, .ref 13, .ref 16])) :
    ∀ m i t w, i + m = 8 → (∀ v, w = some v → v.category = 1) → (∀ k, k < i → t (fc + k) = byC L k ∧ sgI (byC L k)) → (∀ j, j < fc → t j = t0 j) → mz_X G mk_P 0 false b_Office_readColumns 6 (some .boolean) (r_Office_readColumns 0 0) (rcPost n f fc L t0) (fun _ _ _ => False) 3 [some (.ref 0), some (.long L), none, some (.int (nI fc)), some (.int (nI i)), w] [] 0 0 n (mz_u f 3 (aI 16 t)) := by
  intro m
  induction m with
  | zero =>
    intro i t w hi hw hs ht
    have : i = 8 := by omega
    subst this
    refine mz_go [3] 30 ?_
    simp only [mz_r0, mk_lit, mk_fin, mk_cat, mk_fit, mk_nar, mk_cls, mk_ty, mk_isr, List.mem_cons, List.not_mem_nil, or_false, or_true, false_or, true_or, Nat.reduceEqDiff, Nat.reduceAdd, Nat.reduceSub, Nat.reduceLT, Nat.reduceLeDiff, ↓reduceIte, if_true, if_false, List.getElem?_cons_zero, List.getElem?_cons_succ, List.set_cons_zero, List.set_cons_succ, List.length_cons, List.length_nil, mz_s1, mz_s2, mz_cl, true_and, and_true, false_and, and_false, List.append_nil, mk_b0, mk_b1, mk_b2, mk_bn, Value.int.injEq, Option.toList_some, Option.toList_none, List.cons_append, List.nil_append, Classical.not_not, Option.some.injEq, reduceCtorEq, ne_eq, not_true_eq_false, not_false_eq_true, false_implies, true_implies, ev_36, ev_1, ev_56, ev_39, ev_7, ev_6, ev_26, ev_29, ev_2, ev_8, ev_42, ev_0, ev_64, mz_rl d_Office_readColumns_3, mz_rl d_Office_readColumns_5, mz_rl d_Office_readColumns_7, mz_rl d_Office_readColumns_10, mz_rl d_Office_readColumns_11, mz_rl d_Office_readColumns_13, mz_rl d_Office_readColumns_15, mz_rl d_Office_readColumns_17, mz_rl d_Office_readColumns_18, mz_rl d_Office_readColumns_19, mz_rl d_Office_readColumns_20, mz_rl d_Office_readColumns_21, mz_rl d_Office_readColumns_24, mz_rl d_Office_readColumns_25, mz_rl d_Office_readColumns_27, mz_rl d_Office_readColumns_29, mz_rl d_Office_readColumns_54, mz_rl d_Office_readColumns_55, j_Office_readColumns_7, nF_0, nI_leI (show 8 < 2 ^ 31 by omega) (show 8 < 2 ^ 31 by omega), Nat.le_refl]
    exact ⟨true, t, by decide, rfl, rfl, ht, ⟨fun _ k hk => (hs k hk).2, fun _ => rfl⟩, fun _ k hk => (hs k hk).1⟩
  | succ m ih =>
    intro i t w hi hw hs ht
    have key : ∀ x : Int32, x = byC L i → mz_X G mk_P 0 false b_Office_readColumns 6 (some .boolean) (r_Office_readColumns 0 0) (rcPost n f fc L t0) (fun _ _ _ => False) 27 [some (.ref 0), some (.long L), none, some (.int (nI fc)), some (.int (nI i)), some (.int x)] [] 0 0 n (mz_u f 3 (aI 16 t)) := by
      intro x hxL
      refine mz_go [29] 30 ?_
      simp only [mz_r0, mk_lit, mk_fin, mk_cat, mk_fit, mk_nar, mk_cls, mk_ty, mk_isr, List.mem_cons, List.not_mem_nil, or_false, or_true, false_or, true_or, Nat.reduceEqDiff, Nat.reduceAdd, Nat.reduceSub, Nat.reduceLT, Nat.reduceLeDiff, ↓reduceIte, if_true, if_false, List.getElem?_cons_zero, List.getElem?_cons_succ, List.set_cons_zero, List.set_cons_succ, List.length_cons, List.length_nil, mz_s1, mz_s2, mz_cl, true_and, and_true, false_and, and_false, List.append_nil, mk_b0, mk_b1, mk_b2, mk_bn, Value.int.injEq, Option.toList_some, Option.toList_none, List.cons_append, List.nil_append, Classical.not_not, Option.some.injEq, reduceCtorEq, ne_eq, not_true_eq_false, not_false_eq_true, false_implies, true_implies, ev_36, mz_rl d_Office_readColumns_27, nF_0]
      refine mz_callS (by simp only [d_Office_readColumns_29, Nat.reduceAdd]) g_0_244 rfl (fun _ _ h => h) (c_Office_isSign G mk_P n _ x) (by decide) (Nat.le_of_ble_eq_true rfl) rfl ?_; intro v_ n_ f_ h_; obtain ⟨rfl, hn_, hf_⟩ := h_; replace hn_ := hn_.symm; replace hf_ := hf_.symm; subst hn_; subst hf_
      by_cases hx : x.toInt = 32 ∨ 48 ≤ x.toInt ∧ x.toInt ≤ 57 ∨ 65 ≤ x.toInt ∧ x.toInt ≤ 90
      · refine mz_go [3] 30 ?_
        simp only [mz_r0, mk_lit, mk_fin, mk_cat, mk_fit, mk_nar, mk_cls, mk_ty, mk_isr, List.mem_cons, List.not_mem_nil, or_false, or_true, false_or, true_or, Nat.reduceEqDiff, Nat.reduceAdd, Nat.reduceSub, Nat.reduceLT, Nat.reduceLeDiff, ↓reduceIte, if_true, if_false, List.getElem?_cons_zero, List.getElem?_cons_succ, List.set_cons_zero, List.set_cons_succ, List.length_cons, List.length_nil, mz_s1, mz_s2, mz_cl, true_and, and_true, false_and, and_false, List.append_nil, mk_b0, mk_b1, mk_b2, mk_bn, Value.int.injEq, Option.toList_some, Option.toList_none, List.cons_append, List.nil_append, Classical.not_not, Option.some.injEq, reduceCtorEq, ne_eq, not_true_eq_false, not_false_eq_true, false_implies, true_implies, ev_51, ev_0, ev_64, ev_41, ev_79, ft_0_2, fn_0_2, ev_37, ev_36, ev_5, ev_72, ev_48, ev_61, mz_rl d_Office_readColumns_32, mz_rl d_Office_readColumns_35, mz_rl d_Office_readColumns_36, mz_rl d_Office_readColumns_37, mz_rl d_Office_readColumns_38, mz_rl d_Office_readColumns_41, mz_rl d_Office_readColumns_42, mz_rl d_Office_readColumns_44, mz_rl d_Office_readColumns_45, mz_rl d_Office_readColumns_47, mz_rl d_Office_readColumns_48, mz_rl d_Office_readColumns_51, j_Office_readColumns_32, j_Office_readColumns_51, nF_0, eq_true hx, mz_u_n (show 0 ≠ 3 by decide), ho, mz_u_s, mz_uu, nI_add, vp_in_nI (show fc + i < 16 by omega) (show 16 < 2 ^ 31 by decide), nI_clamp (show fc + i < 2 ^ 31 by omega)]
        refine ih (i + 1) _ _ (by omega) (fun v hv => by cases hv; rfl) (fun k hk => ?_) (fun j hj => ?_)
        · by_cases e : k = i
          · subst e; exact ⟨by rw [pk_us]; exact hxL, by rw [← hxL]; exact hx⟩
          · rw [pk_un (by omega)]; exact hs k (by omega)
        · rw [pk_un (by omega)]; exact ht j hj
      · refine mz_go [] 30 ?_
        simp only [mz_r0, mk_lit, mk_fin, mk_cat, mk_fit, mk_nar, mk_cls, mk_ty, mk_isr, List.mem_cons, List.not_mem_nil, or_false, or_true, false_or, true_or, Nat.reduceEqDiff, Nat.reduceAdd, Nat.reduceSub, Nat.reduceLT, Nat.reduceLeDiff, ↓reduceIte, if_true, if_false, List.getElem?_cons_zero, List.getElem?_cons_succ, List.set_cons_zero, List.set_cons_succ, List.length_cons, List.length_nil, mz_s1, mz_s2, mz_cl, true_and, and_true, false_and, and_false, List.append_nil, mk_b0, mk_b1, mk_b2, mk_bn, Value.int.injEq, Option.toList_some, Option.toList_none, List.cons_append, List.nil_append, Classical.not_not, Option.some.injEq, reduceCtorEq, ne_eq, not_true_eq_false, not_false_eq_true, false_implies, true_implies, ev_36, ev_1, ev_56, ev_39, ev_7, ev_6, ev_26, ev_29, ev_2, ev_8, ev_42, ev_51, ev_0, ev_64, ev_41, ev_79, ft_0_2, fn_0_2, ev_37, ev_5, ev_72, ev_48, ev_61, mz_rl d_Office_readColumns_3, mz_rl d_Office_readColumns_5, mz_rl d_Office_readColumns_7, mz_rl d_Office_readColumns_10, mz_rl d_Office_readColumns_11, mz_rl d_Office_readColumns_13, mz_rl d_Office_readColumns_15, mz_rl d_Office_readColumns_17, mz_rl d_Office_readColumns_18, mz_rl d_Office_readColumns_19, mz_rl d_Office_readColumns_20, mz_rl d_Office_readColumns_21, mz_rl d_Office_readColumns_24, mz_rl d_Office_readColumns_25, mz_rl d_Office_readColumns_27, mz_rl d_Office_readColumns_29, mz_rl d_Office_readColumns_32, mz_rl d_Office_readColumns_35, mz_rl d_Office_readColumns_36, mz_rl d_Office_readColumns_37, mz_rl d_Office_readColumns_38, mz_rl d_Office_readColumns_41, mz_rl d_Office_readColumns_42, mz_rl d_Office_readColumns_44, mz_rl d_Office_readColumns_45, mz_rl d_Office_readColumns_47, mz_rl d_Office_readColumns_48, mz_rl d_Office_readColumns_51, mz_rl d_Office_readColumns_54, mz_rl d_Office_readColumns_55, j_Office_readColumns_7, j_Office_readColumns_32, j_Office_readColumns_51, nF_0, eq_false hx]
        exact ⟨false, t, by decide, rfl, rfl, ht, ⟨fun z => absurd z (by decide), fun z => absurd (by rw [hxL]; exact z i (by omega)) hx⟩, fun z => absurd z (by decide)⟩
    have e56 : nI 56 - nI (8 * i) = nI (56 - 8 * i) := pk_sub (by omega)
    rcases w with _ | w
    · refine mz_go [27] 30 ?_
      simp only [mz_r0, mk_lit, mk_fin, mk_cat, mk_fit, mk_nar, mk_cls, mk_ty, mk_isr, List.mem_cons, List.not_mem_nil, or_false, or_true, false_or, true_or, Nat.reduceEqDiff, Nat.reduceAdd, Nat.reduceSub, Nat.reduceLT, Nat.reduceLeDiff, ↓reduceIte, if_true, if_false, List.getElem?_cons_zero, List.getElem?_cons_succ, List.set_cons_zero, List.set_cons_succ, List.length_cons, List.length_nil, mz_s1, mz_s2, mz_cl, true_and, and_true, false_and, and_false, List.append_nil, mk_b0, mk_b1, mk_b2, mk_bn, Value.int.injEq, Option.toList_some, Option.toList_none, List.cons_append, List.nil_append, Classical.not_not, Option.some.injEq, reduceCtorEq, ne_eq, not_true_eq_false, not_false_eq_true, false_implies, true_implies, ev_36, ev_1, ev_56, ev_39, ev_7, ev_6, ev_26, ev_29, ev_2, ev_8, ev_42, ev_0, ev_64, mz_rl d_Office_readColumns_3, mz_rl d_Office_readColumns_5, mz_rl d_Office_readColumns_7, mz_rl d_Office_readColumns_10, mz_rl d_Office_readColumns_11, mz_rl d_Office_readColumns_13, mz_rl d_Office_readColumns_15, mz_rl d_Office_readColumns_17, mz_rl d_Office_readColumns_18, mz_rl d_Office_readColumns_19, mz_rl d_Office_readColumns_20, mz_rl d_Office_readColumns_21, mz_rl d_Office_readColumns_24, mz_rl d_Office_readColumns_25, mz_rl d_Office_readColumns_54, mz_rl d_Office_readColumns_55, j_Office_readColumns_7, nF_0, nI_leI (show 8 < 2 ^ 31 by omega) (show i < 2 ^ 31 by omega), show ¬ 8 ≤ i by omega, pk_mul, e56]
      exact key _ rfl
    · have hw1 := hw w rfl
      refine mz_go [27] 30 ?_
      simp only [mz_r0, mk_lit, mk_fin, mk_cat, mk_fit, mk_nar, mk_cls, mk_ty, mk_isr, List.mem_cons, List.not_mem_nil, or_false, or_true, false_or, true_or, Nat.reduceEqDiff, Nat.reduceAdd, Nat.reduceSub, Nat.reduceLT, Nat.reduceLeDiff, ↓reduceIte, if_true, if_false, List.getElem?_cons_zero, List.getElem?_cons_succ, List.set_cons_zero, List.set_cons_succ, List.length_cons, List.length_nil, mz_s1, mz_s2, mz_cl, true_and, and_true, false_and, and_false, List.append_nil, mk_b0, mk_b1, mk_b2, mk_bn, Value.int.injEq, Option.toList_some, Option.toList_none, List.cons_append, List.nil_append, Classical.not_not, Option.some.injEq, reduceCtorEq, ne_eq, not_true_eq_false, not_false_eq_true, false_implies, true_implies, ev_36, ev_1, ev_56, ev_39, ev_7, ev_6, ev_26, ev_29, ev_2, ev_8, ev_42, ev_0, ev_64, mz_rl d_Office_readColumns_3, mz_rl d_Office_readColumns_5, mz_rl d_Office_readColumns_7, mz_rl d_Office_readColumns_10, mz_rl d_Office_readColumns_11, mz_rl d_Office_readColumns_13, mz_rl d_Office_readColumns_15, mz_rl d_Office_readColumns_17, mz_rl d_Office_readColumns_18, mz_rl d_Office_readColumns_19, mz_rl d_Office_readColumns_20, mz_rl d_Office_readColumns_21, mz_rl d_Office_readColumns_24, mz_rl d_Office_readColumns_25, mz_rl d_Office_readColumns_54, mz_rl d_Office_readColumns_55, j_Office_readColumns_7, nF_0, nI_leI (show 8 < 2 ^ 31 by omega) (show i < 2 ^ 31 by omega), show ¬ 8 ≤ i by omega, hw1, pk_mul, e56]
      exact key _ rfl
theorem c_Office_readColumns (G : mz_G) (n : Nat) (f : mz_H) {fc : Nat} {L : Int64} {t0 : Nat → Int32} (hfc : fc ≤ 8) (ho : f 0 = .inr (0, [.ref 1, .ref 2, .ref 3, .ref 4, .ref 5, .ref 8, .ref 13, .ref 16])) (h3 : f 3 = aI 16 t0) :
    mz_Ct G mk_P y_Office_readColumns b_Office_readColumns 6 (some .boolean) (r_Office_readColumns 0 0) [.ref 0, .long L, .int (nI fc)] n f (rcPost n f fc L t0) := by
  refine mk_Ct 0 false [some (.ref 0), some (.long L), none, some (.int (nI fc)), none, none] (by decide) rfl (by decide) (Nat.le_of_ble_eq_true rfl) rfl ?_
  refine mz_go [3] 30 ?_
  simp only [mz_r0, mk_lit, mk_fin, mk_cat, mk_fit, mk_nar, mk_cls, mk_ty, mk_isr, List.mem_cons, List.not_mem_nil, or_false, or_true, false_or, true_or, Nat.reduceEqDiff, Nat.reduceAdd, Nat.reduceSub, Nat.reduceLT, Nat.reduceLeDiff, ↓reduceIte, if_true, if_false, List.getElem?_cons_zero, List.getElem?_cons_succ, List.set_cons_zero, List.set_cons_succ, List.length_cons, List.length_nil, mz_s1, mz_s2, mz_cl, true_and, and_true, false_and, and_false, List.append_nil, mk_b0, mk_b1, mk_b2, mk_bn, Value.int.injEq, Option.toList_some, Option.toList_none, List.cons_append, List.nil_append, Classical.not_not, Option.some.injEq, reduceCtorEq, ne_eq, not_true_eq_false, not_false_eq_true, false_implies, true_implies, ev_0, ev_42, mz_rl d_Office_readColumns_0, mz_rl d_Office_readColumns_1, nF_0]
  have := l_Office_readColumns G n f (L := L) (t0 := t0) hfc ho 8 0 t0 none rfl (fun v hv => by cases hv) (fun k hk => absurd hk (by omega)) (fun _ _ => rfl)
  rw [mz_ui h3] at this
  exact this
/-- the sign in column j of the card that two longs name -/
def cdI (a b : Int64) (j : Nat) : Int32 := byC (if j < 8 then a else b) (j % 8)
def cdN (a b : Int64) (j : Nat) : Nat := (cdI a b j).toNatClampNeg
/-- card's answer, and the decks behind it -/
def caP (f : mz_H) (n K : Nat) (sz : Nat → Nat) (cd s : Nat → Nat → Nat) (x : Int32) (a b : Int64) (v : Option Value) (n' : Nat) (f' : mz_H) : Prop :=
  (∃ i, i < 8 ∧ x = nI i ∧ K < 200 ∧ (∀ j, j < 16 → sgI (cdI a b j)) ∧ v = some (.int (nI 1)) ∧ CI f' n' (K + 1) (va_up sz i (sz i + 1)) (va_up cd i (va_up (cd i) (sz i) K)) (va_up s K (cpy (cdN a b) (fun _ => 0) 16)) ∧ FrB f f' ∧ MU f f' no_U)
  ∨ (¬ ((0 ≤ x.toInt ∧ x.toInt < 8) ∧ K < 200 ∧ ∀ j, j < 16 → sgI (cdI a b j)) ∧ v = some (.int (nI 0)) ∧ n' = n ∧ CI f' n K sz cd s ∧ FrB f f' ∧ MU f f' no_U)
theorem sgI_n {x : Int32} (h : sgI x) : sg x.toNatClampNeg ∧ x = nI x.toNatClampNeg := by
  unfold sgI at h
  obtain ⟨c, hc, rfl⟩ := mk_nat (x := x) (N := 91) (by omega) (by omega) (by decide)
  rw [nI_clamp (show c < 2 ^ 31 by omega)]
  rw [mk_nti (show c < 2 ^ 31 by omega)] at h
  exact ⟨by unfold sg; omega, rfl⟩
theorem l_Office_card (G : mz_G) (n : Nat) (f : mz_H) {x i : Nat} {a b : Int64} {t : Nat → Int32} (post : Option Value → Nat → mz_H → Prop) (ho : f 0 = .inr (0, [.ref 1, .ref 2, .ref 3, .ref 4, .ref 5, .ref 8, .ref 13, .ref 16])) (h3 : f 3 = aI 16 t) (hx : 172 ≤ x) (h1 : f x = .inr (2, [.ref (x + 1)]))
    (hend : mz_X G mk_P 0 false b_Office_card 8 (some .boolean) (r_Office_card 2 17) post (fun _ _ _ => False) 81 [some (.ref 0), some (.int (nI i)), some (.long a), none, some (.long b), none, some (.ref x), some (.int (nI 16))] [] 2 17 n (mz_u f (x + 1) (aI 16 (cpy t (fun _ => nI 0) 16)))) :
    ∀ m k, k + m = 16 → mz_X G mk_P 0 false b_Office_card 8 (some .boolean) (r_Office_card 2 17) post (fun _ _ _ => False) 53 [some (.ref 0), some (.int (nI i)), some (.long a), none, some (.long b), none, some (.ref x), some (.int (nI k))] [] 2 17 n (mz_u f (x + 1) (aI 16 (cpy t (fun _ => nI 0) k))) := by
  intro m
  induction m with
  | zero =>
    intro k hk
    have : k = 16 := by omega
    subst this
    refine mz_go [53, 81] 12 ?_
    simp only [mz_r0, mk_lit, mk_fin, mk_cat, mk_fit, mk_nar, mk_cls, mk_ty, mk_isr, List.mem_cons, List.not_mem_nil, or_false, or_true, false_or, true_or, Nat.reduceEqDiff, Nat.reduceAdd, Nat.reduceSub, Nat.reduceLT, Nat.reduceLeDiff, ↓reduceIte, if_true, if_false, List.getElem?_cons_zero, List.getElem?_cons_succ, List.set_cons_zero, List.set_cons_succ, List.length_cons, List.length_nil, mz_s1, mz_s2, mz_cl, true_and, and_true, false_and, and_false, List.append_nil, mk_b0, mk_b1, mk_b2, mk_bn, Value.int.injEq, Option.toList_some, Option.toList_none, List.cons_append, List.nil_append, Classical.not_not, Option.some.injEq, reduceCtorEq, ne_eq, not_true_eq_false, not_false_eq_true, false_implies, true_implies, ev_36, ev_1, ev_56, ev_40, ev_79, ft_2_0, fn_2_0, ev_41, ft_0_2, fn_0_2, ev_68, ev_72, ev_48, ev_61, mz_rl d_Office_card_53, mz_rl d_Office_card_55, mz_rl d_Office_card_57, mz_rl d_Office_card_60, mz_rl d_Office_card_62, mz_rl d_Office_card_65, mz_rl d_Office_card_67, mz_rl d_Office_card_68, mz_rl d_Office_card_71, mz_rl d_Office_card_73, mz_rl d_Office_card_74, mz_rl d_Office_card_75, mz_rl d_Office_card_78, j_Office_card_57, j_Office_card_78, nF_0, nI_leI (show 16 < 2 ^ 31 by omega) (show 16 < 2 ^ 31 by omega), Nat.le_refl]
    exact hend
  | succ m ih =>
    intro k hk
    refine mz_go [53] 30 ?_
    simp only [mz_r0, mk_lit, mk_fin, mk_cat, mk_fit, mk_nar, mk_cls, mk_ty, mk_isr, List.mem_cons, List.not_mem_nil, or_false, or_true, false_or, true_or, Nat.reduceEqDiff, Nat.reduceAdd, Nat.reduceSub, Nat.reduceLT, Nat.reduceLeDiff, ↓reduceIte, if_true, if_false, List.getElem?_cons_zero, List.getElem?_cons_succ, List.set_cons_zero, List.set_cons_succ, List.length_cons, List.length_nil, mz_s1, mz_s2, mz_cl, true_and, and_true, false_and, and_false, List.append_nil, mk_b0, mk_b1, mk_b2, mk_bn, Value.int.injEq, Option.toList_some, Option.toList_none, List.cons_append, List.nil_append, Classical.not_not, Option.some.injEq, reduceCtorEq, ne_eq, not_true_eq_false, not_false_eq_true, false_implies, true_implies, ev_36, ev_1, ev_56, ev_40, ev_79, ft_2_0, fn_2_0, ev_41, ft_0_2, fn_0_2, ev_68, ev_72, ev_48, ev_61, ft_0_0, fn_0_0, ev_37, ev_76, mz_rl d_Office_card_53, mz_rl d_Office_card_55, mz_rl d_Office_card_57, mz_rl d_Office_card_60, mz_rl d_Office_card_62, mz_rl d_Office_card_65, mz_rl d_Office_card_67, mz_rl d_Office_card_68, mz_rl d_Office_card_71, mz_rl d_Office_card_73, mz_rl d_Office_card_74, mz_rl d_Office_card_75, mz_rl d_Office_card_78, mz_rl d_Office_card_81, mz_rl d_Office_card_82, mz_rl d_Office_card_85, mz_rl d_Office_card_86, mz_rl d_Office_card_87, mz_rl d_Office_card_89, j_Office_card_57, j_Office_card_78, nF_0, nI_leI (show 16 < 2 ^ 31 by decide) (show k < 2 ^ 31 by omega), show ¬ 16 ≤ k by omega, ho, h3, h1, mz_u_n (show 0 ≠ x + 1 by omega), mz_u_n (show 3 ≠ x + 1 by omega), mz_u_n (show x ≠ x + 1 by omega), vp_in_nI (show k < 16 by omega) (show 16 < 2 ^ 31 by decide), nI_clamp (show k < 2 ^ 31 by omega), mz_u_s, mz_uu, nI_add, cpy_upd]
    exact ih (k + 1) (by omega)
set_option maxRecDepth 20000 in
theorem c_Office_card (G : mz_G) (n : Nat) (f : mz_H) {x : Int32} {a b : Int64} {K : Nat} {sz : Nat → Nat} {cd s : Nat → Nat → Nat} (h : CI f n K sz cd s) :
    mz_Ct G mk_P y_Office_card b_Office_card 8 (some .boolean) (r_Office_card 2 17) [.ref 0, .int x, .long a, .long b] n f (caP f n K sz cd s x a b) := by
  obtain ⟨lx, h1, h2, h3, h4, h5, h6, h7⟩ := id h
  subst h1
  have ho := h3.1
  have hq := h3.2.1
  obtain ⟨t0, ht0⟩ := h3.2.2.2.1
  refine mk_Ct 0 false [some (.ref 0), some (.int x), some (.long a), none, some (.long b), none, none, none] (by decide) rfl (by decide) (Nat.le_of_ble_eq_true rfl) rfl ?_
  refine mz_go [1] 20 ?_
  simp only [mz_r0, mk_lit, mk_fin, mk_cat, mk_fit, mk_nar, mk_cls, mk_ty, mk_isr, List.mem_cons, List.not_mem_nil, or_false, or_true, false_or, true_or, Nat.reduceEqDiff, Nat.reduceAdd, Nat.reduceSub, Nat.reduceLT, Nat.reduceLeDiff, ↓reduceIte, if_true, if_false, List.getElem?_cons_zero, List.getElem?_cons_succ, List.set_cons_zero, List.set_cons_succ, List.length_cons, List.length_nil, mz_s1, mz_s2, mz_cl, true_and, and_true, false_and, and_false, List.append_nil, mk_b0, mk_b1, mk_b2, mk_bn, Value.int.injEq, Option.toList_some, Option.toList_none, List.cons_append, List.nil_append, Classical.not_not, Option.some.injEq, reduceCtorEq, ne_eq, not_true_eq_false, not_false_eq_true, false_implies, true_implies, ev_37, mz_rl d_Office_card_0, nF_0]
  refine mz_callS (by simp only [d_Office_card_1, Nat.reduceAdd]) g_0_62 rfl (fun _ _ h => h) (c_Office_isDeck G mk_P (172 + 2 * K) f x) (by decide) (Nat.le_of_ble_eq_true rfl) rfl ?_; intro v_ n_ f_ h_; obtain ⟨rfl, hn_, hf_⟩ := h_; replace hn_ := hn_.symm; replace hf_ := hf_.symm; subst hn_; subst hf_
  by_cases hx : 0 ≤ x.toInt ∧ x.toInt < 8
  · obtain ⟨i, hi, rfl⟩ := mk_nat (N := 8) hx.1 hx.2 (by decide)
    refine mz_go [8] 20 ?_
    simp only [mz_r0, mk_lit, mk_fin, mk_cat, mk_fit, mk_nar, mk_cls, mk_ty, mk_isr, List.mem_cons, List.not_mem_nil, or_false, or_true, false_or, true_or, Nat.reduceEqDiff, Nat.reduceAdd, Nat.reduceSub, Nat.reduceLT, Nat.reduceLeDiff, ↓reduceIte, if_true, if_false, List.getElem?_cons_zero, List.getElem?_cons_succ, List.set_cons_zero, List.set_cons_succ, List.length_cons, List.length_nil, mz_s1, mz_s2, mz_cl, true_and, and_true, false_and, and_false, List.append_nil, mk_b0, mk_b1, mk_b2, mk_bn, Value.int.injEq, Option.toList_some, Option.toList_none, List.cons_append, List.nil_append, Classical.not_not, Option.some.injEq, reduceCtorEq, ne_eq, not_true_eq_false, not_false_eq_true, false_implies, true_implies, ev_49, ev_41, ev_0, ev_64, mz_rl d_Office_card_4, mz_rl d_Office_card_7, mz_rl d_Office_card_17, mz_rl d_Office_card_18, j_Office_card_4, nF_0, eq_true hx]
    refine mz_callV (by simp only [d_Office_card_8, Nat.reduceAdd]) g_0_66 rfl (fun _ _ h => h) (c_Office_cardsInAll G (172 + 2 * K) f ho hq h6) ho rfl rfl (by decide) (Nat.le_of_ble_eq_true rfl) rfl ?_; intro v_ n_ f_ h_; obtain ⟨rfl, hn_, hf_⟩ := h_; replace hn_ := hn_.symm; replace hf_ := hf_.symm; subst hn_; subst hf_
    by_cases hK : K < 200
    · refine mz_go [22] 20 ?_
      simp only [mz_r0, mk_lit, mk_fin, mk_cat, mk_fit, mk_nar, mk_cls, mk_ty, mk_isr, List.mem_cons, List.not_mem_nil, or_false, or_true, false_or, true_or, Nat.reduceEqDiff, Nat.reduceAdd, Nat.reduceSub, Nat.reduceLT, Nat.reduceLeDiff, ↓reduceIte, if_true, if_false, List.getElem?_cons_zero, List.getElem?_cons_succ, List.set_cons_zero, List.set_cons_succ, List.length_cons, List.length_nil, mz_s1, mz_s2, mz_cl, true_and, and_true, false_and, and_false, List.append_nil, mk_b0, mk_b1, mk_b2, mk_bn, Value.int.injEq, Option.toList_some, Option.toList_none, List.cons_append, List.nil_append, Classical.not_not, Option.some.injEq, reduceCtorEq, ne_eq, not_true_eq_false, not_false_eq_true, false_implies, true_implies, ev_2, ev_54, ev_0, ev_64, ev_41, ev_39, mz_rl d_Office_card_11, mz_rl d_Office_card_14, mz_rl d_Office_card_17, mz_rl d_Office_card_18, mz_rl d_Office_card_19, mz_rl d_Office_card_20, mz_rl d_Office_card_21, j_Office_card_14, nF_0, nI_ltI (show K < 2 ^ 31 by omega) (show 200 < 2 ^ 31 by decide), eq_true hK]
      refine mz_callV (by simp only [d_Office_card_22, Nat.reduceAdd]) g_0_70 rfl (fun _ _ h => h) (c_Office_readColumns G (172 + 2 * K) f (fc := 0) (L := a) (by decide) ho ht0) ho rfl rfl (by decide) (Nat.le_of_ble_eq_true rfl) rfl ?_; rintro v_ n_ f_ ⟨r1, t1, rfl, rfl, rfl, -, hi1, hr1⟩
      obtain ⟨f1, hf1⟩ : ∃ f1, f1 = mz_u f 3 (aI 16 t1) := ⟨_, rfl⟩
      rw [← hf1]
      have fF : ∀ q, q ≠ 3 → f1 q = f q := fun q z => by rw [hf1]; exact mz_u_n z
      have o1 := (fF 0 (by decide)).trans ho
      have t1' : f1 3 = aI 16 t1 := by rw [hf1]; exact mz_u_s _ _ _
      have back : ∀ t, CI (mz_u f 3 (aI 16 t)) (172 + 2 * K) K sz cd s ∧ FrB f (mz_u f 3 (aI 16 t)) ∧ MU f (mz_u f 3 (aI 16 t)) no_U := fun t => by
        obtain ⟨c1, c2, c3, c4, c5, c6, c7, c8, c9, c10, c11, c12, c13, c14, c15⟩ := h3
        refine CI_3 (MU_n (mz_u_n (by decide)) (mz_u_n (by decide)) (mz_u_n (by decide))) ?_
        refine CI_mk ⟨c1, c2, c3, c4, c5, c6, c7, c8, c9, c10, c11, c12, c13, c14, c15⟩ h4 h5 ⟨t, mz_u_s _ _ _⟩ ?_ ?_ ?_ ?_ ?_ (Dk0_eq c10 (mz_u_n (by decide)) (mz_u_n (by decide))) (Dk0_eq c11 (mz_u_n (by decide)) (mz_u_n (by decide))) ?_ ?_ (fun q hq => mz_u_n (by omega)) (CD_eq h6 (fun q _ _ => mz_u_n (by omega))) (Cd_u h7 (by decide) _) h2 rfl
        all_goals (rw [mz_u_n (by decide)]; assumption)
      rcases r1 with _ | _
      · refine mz_go [] 20 ?_
        simp only [mz_r0, mk_lit, mk_fin, mk_cat, mk_fit, mk_nar, mk_cls, mk_ty, mk_isr, List.mem_cons, List.not_mem_nil, or_false, or_true, false_or, true_or, Nat.reduceEqDiff, Nat.reduceAdd, Nat.reduceSub, Nat.reduceLT, Nat.reduceLeDiff, ↓reduceIte, if_true, if_false, List.getElem?_cons_zero, List.getElem?_cons_succ, List.set_cons_zero, List.set_cons_succ, List.length_cons, List.length_nil, mz_s1, mz_s2, mz_cl, true_and, and_true, false_and, and_false, List.append_nil, mk_b0, mk_b1, mk_b2, mk_bn, Value.int.injEq, Option.toList_some, Option.toList_none, List.cons_append, List.nil_append, Classical.not_not, Option.some.injEq, reduceCtorEq, ne_eq, not_true_eq_false, not_false_eq_true, false_implies, true_implies, ev_49, ev_41, ev_38, ev_1, ev_0, ev_64, mz_rl d_Office_card_25, mz_rl d_Office_card_28, mz_rl d_Office_card_29, mz_rl d_Office_card_31, mz_rl d_Office_card_33, mz_rl d_Office_card_39, mz_rl d_Office_card_40, j_Office_card_25, nF_0, show (false = true) = False from by simp]
        rw [hf1]
        refine Or.inr ⟨fun z => ?_, rfl, rfl, back t1⟩
        have := hi1.mpr (fun k hk => by have := z.2.2 k (by omega); unfold cdI at this; rw [if_pos hk, Nat.mod_eq_of_lt hk] at this; exact this)
        cases this
      · refine mz_go [33] 20 ?_
        simp only [mz_r0, mk_lit, mk_fin, mk_cat, mk_fit, mk_nar, mk_cls, mk_ty, mk_isr, List.mem_cons, List.not_mem_nil, or_false, or_true, false_or, true_or, Nat.reduceEqDiff, Nat.reduceAdd, Nat.reduceSub, Nat.reduceLT, Nat.reduceLeDiff, ↓reduceIte, if_true, if_false, List.getElem?_cons_zero, List.getElem?_cons_succ, List.set_cons_zero, List.set_cons_succ, List.length_cons, List.length_nil, mz_s1, mz_s2, mz_cl, true_and, and_true, false_and, and_false, List.append_nil, mk_b0, mk_b1, mk_b2, mk_bn, Value.int.injEq, Option.toList_some, Option.toList_none, List.cons_append, List.nil_append, Classical.not_not, Option.some.injEq, reduceCtorEq, ne_eq, not_true_eq_false, not_false_eq_true, false_implies, true_implies, ev_49, ev_41, ev_38, ev_1, ev_0, ev_64, mz_rl d_Office_card_25, mz_rl d_Office_card_28, mz_rl d_Office_card_29, mz_rl d_Office_card_31, mz_rl d_Office_card_39, mz_rl d_Office_card_40, j_Office_card_25, nF_0, show (true = true) = True from by simp]
        refine mz_callV (by simp only [d_Office_card_33, Nat.reduceAdd]) g_0_70 rfl (fun _ _ h => h) (c_Office_readColumns G (172 + 2 * K) f1 (fc := 8) (L := b) (by decide) o1 t1') o1 rfl rfl (by decide) (Nat.le_of_ble_eq_true rfl) rfl ?_; rintro v_ n_ f_ ⟨r2, t2, rfl, rfl, rfl, hk2, hi2, hr2⟩
        have e2 : mz_u f1 3 (aI 16 t2) = mz_u f 3 (aI 16 t2) := by rw [hf1, mz_uu]
        rw [e2]
        obtain ⟨f2, hf2⟩ : ∃ f2, f2 = mz_u f 3 (aI 16 t2) := ⟨_, rfl⟩
        rcases r2 with _ | _
        · refine mz_go [] 20 ?_
          simp only [mz_r0, mk_lit, mk_fin, mk_cat, mk_fit, mk_nar, mk_cls, mk_ty, mk_isr, List.mem_cons, List.not_mem_nil, or_false, or_true, false_or, true_or, Nat.reduceEqDiff, Nat.reduceAdd, Nat.reduceSub, Nat.reduceLT, Nat.reduceLeDiff, ↓reduceIte, if_true, if_false, List.getElem?_cons_zero, List.getElem?_cons_succ, List.set_cons_zero, List.set_cons_succ, List.length_cons, List.length_nil, mz_s1, mz_s2, mz_cl, true_and, and_true, false_and, and_false, List.append_nil, mk_b0, mk_b1, mk_b2, mk_bn, Value.int.injEq, Option.toList_some, Option.toList_none, List.cons_append, List.nil_append, Classical.not_not, Option.some.injEq, reduceCtorEq, ne_eq, not_true_eq_false, not_false_eq_true, false_implies, true_implies, ev_51, ev_0, ev_64, mz_rl d_Office_card_36, mz_rl d_Office_card_39, mz_rl d_Office_card_40, mz_rl d_Office_card_41, j_Office_card_36, nF_0, show (false = true) = False from by simp]
          refine Or.inr ⟨fun z => ?_, rfl, rfl, back t2⟩
          have := hi2.mpr (fun k hk => by have := z.2.2 (8 + k) (by omega); unfold cdI at this; rw [if_neg (by omega), show (8 + k) % 8 = k by omega] at this; exact this)
          cases this
        · rw [← hf2]
          have hall : ∀ j, j < 16 → sgI (cdI a b j) ∧ t2 j = cdI a b j := fun j hj => by
            by_cases e : j < 8
            · unfold cdI; rw [if_pos e, Nat.mod_eq_of_lt e]
              exact ⟨hi1.mp rfl j e, by have q9 := hr1 rfl j e; rw [Nat.zero_add] at q9; rw [hk2 j e]; exact q9⟩
            · unfold cdI; rw [if_neg e, show j % 8 = j - 8 by omega]
              exact ⟨hi2.mp rfl (j - 8) (by omega), by rw [← hr2 rfl (j - 8) (by omega)]; congr 1; omega⟩
          have gF : ∀ q, q ≠ 3 → f2 q = f q := fun q z => by rw [hf2]; exact mz_u_n z
          have o2 := (gF 0 (by decide)).trans ho
          have t2' : f2 3 = aI 16 t2 := by rw [hf2]; exact mz_u_s _ _ _
          have q2' := (gF 1 (by decide)).trans hq
          refine mz_go [41] 20 ?_
          simp only [mz_r0, mk_lit, mk_fin, mk_cat, mk_fit, mk_nar, mk_cls, mk_ty, mk_isr, List.mem_cons, List.not_mem_nil, or_false, or_true, false_or, true_or, Nat.reduceEqDiff, Nat.reduceAdd, Nat.reduceSub, Nat.reduceLT, Nat.reduceLeDiff, ↓reduceIte, if_true, if_false, List.getElem?_cons_zero, List.getElem?_cons_succ, List.set_cons_zero, List.set_cons_succ, List.length_cons, List.length_nil, mz_s1, mz_s2, mz_cl, true_and, and_true, false_and, and_false, List.append_nil, mk_b0, mk_b1, mk_b2, mk_bn, Value.int.injEq, Option.toList_some, Option.toList_none, List.cons_append, List.nil_append, Classical.not_not, Option.some.injEq, reduceCtorEq, ne_eq, not_true_eq_false, not_false_eq_true, false_implies, true_implies, ev_51, ev_0, ev_64, mz_rl d_Office_card_36, mz_rl d_Office_card_39, mz_rl d_Office_card_40, j_Office_card_36, nF_0, show (true = true) = True from by simp]
          refine mz_new (ci := 2) (fs := [.null]) (by simp only [d_Office_card]) rfl w_new_0_74 rfl (by decide) (by decide) (by unfold mz_e0; omega) ?_
          refine mz_go [45] 20 ?_
          simp only [mz_r0, mk_lit, mk_fin, mk_cat, mk_fit, mk_nar, mk_cls, mk_ty, mk_isr, List.mem_cons, List.not_mem_nil, or_false, or_true, false_or, true_or, Nat.reduceEqDiff, Nat.reduceAdd, Nat.reduceSub, Nat.reduceLT, Nat.reduceLeDiff, ↓reduceIte, if_true, if_false, List.getElem?_cons_zero, List.getElem?_cons_succ, List.set_cons_zero, List.set_cons_succ, List.length_cons, List.length_nil, mz_s1, mz_s2, mz_cl, true_and, and_true, false_and, and_false, List.append_nil, mk_b0, mk_b1, mk_b2, mk_bn, Value.int.injEq, Option.toList_some, Option.toList_none, List.cons_append, List.nil_append, Classical.not_not, Option.some.injEq, reduceCtorEq, ne_eq, not_true_eq_false, not_false_eq_true, false_implies, true_implies, ev_32, mz_rl d_Office_card_44, nF_0]
          refine mz_callI (by simp only [d_Office_card_45, Nat.reduceAdd]) g_0_76 rfl (fun _ _ h => h) (c_Card_init G mk_P (172 + 2 * K + 1) _ (a := 172 + 2 * K) (mz_u_s _ _ _) (by omega) (by unfold mz_e0; omega)) (by decide) (Nat.le_of_ble_eq_true rfl) rfl ?_; rintro v_ n_ f_ ⟨rfl, rfl, rfl⟩
          refine mz_go [53] 20 ?_
          simp only [mz_r0, mk_lit, mk_fin, mk_cat, mk_fit, mk_nar, mk_cls, mk_ty, mk_isr, List.mem_cons, List.not_mem_nil, or_false, or_true, false_or, true_or, Nat.reduceEqDiff, Nat.reduceAdd, Nat.reduceSub, Nat.reduceLT, Nat.reduceLeDiff, ↓reduceIte, if_true, if_false, List.getElem?_cons_zero, List.getElem?_cons_succ, List.set_cons_zero, List.set_cons_succ, List.length_cons, List.length_nil, mz_s1, mz_s2, mz_cl, true_and, and_true, false_and, and_false, List.append_nil, mk_b0, mk_b1, mk_b2, mk_bn, Value.int.injEq, Option.toList_some, Option.toList_none, List.cons_append, List.nil_append, Classical.not_not, Option.some.injEq, reduceCtorEq, ne_eq, not_true_eq_false, not_false_eq_true, false_implies, true_implies, ev_46, ev_0, ev_42, mz_rl d_Office_card_48, mz_rl d_Office_card_50, mz_rl d_Office_card_51, nF_0]
          obtain ⟨c', hc0⟩ : ∃ c', c' = cdN a b := ⟨_, rfl⟩
          have hc' : ∀ j, j < 16 → sg (c' j) ∧ t2 j = nI (c' j) := fun j hj => by
            obtain ⟨q1, q2⟩ := hall j hj
            have q3 := sgI_n q1
            rw [q2, hc0]; exact ⟨q3.1, q3.2⟩
          have hH : mz_u (mz_u (mz_u f2 (172 + 2 * K) (.inr (2, [.null]))) (172 + 2 * K + 1) (aI 16 (fun _ => nI 0))) (172 + 2 * K) (.inr (2, [.ref (172 + 2 * K + 1)])) = mz_u (mz_u f2 (172 + 2 * K) (.inr (2, [.ref (172 + 2 * K + 1)]))) (172 + 2 * K + 1) (aI 16 (cpy t2 (fun _ => nI 0) 0)) := by
            rw [mz_uc _ (show 172 + 2 * K + 1 ≠ 172 + 2 * K by omega), mz_uu, cpy_0]
          rw [hH]
          refine l_Office_card G (172 + 2 * K + 1 + 1) _ (x := 172 + 2 * K) (i := i) (t := t2) _ ((mz_u_n (by omega)).trans o2) ((mz_u_n (by omega)).trans t2') (by omega) (mz_u_s _ _ _) ?_ 16 0 rfl
          have hE : cpy t2 (fun _ => nI 0) 16 = fun j => nI (cpy c' (fun _ => 0) 16 j) := by
            funext j
            by_cases e : j < 16
            · rw [cpy_lt e, cpy_lt e]; exact (hc' j e).2
            · rw [cpy_ge (by omega), cpy_ge (by omega)]
          rw [hE]
          have nK := Cd_new (f := f2) (t := cpy c' (fun _ => 0) 16) (show Cd f2 K s by rw [hf2]; exact Cd_u h7 (by decide) _) (fun j hj => by rw [cpy_lt hj]; exact (hc' j hj).1)
          obtain ⟨f3, hf3⟩ : ∃ f3, f3 = mz_u (mz_u f2 (172 + 2 * K) (.inr (2, [.ref (172 + 2 * K + 1)]))) (172 + 2 * K + 1) (aI 16 (fun j => nI (cpy c' (fun _ => 0) 16 j))) := ⟨_, rfl⟩
          rw [← hf3] at nK ⊢
          have kF : ∀ q, (q < 172 ∨ q = 1000000000001) → f3 q = f2 q := fun q z => by rw [hf3, mz_u_n (by omega), mz_u_n (by omega)]
          have lF : ∀ q, q ≠ 3 → (q < 172 ∨ q = 1000000000001) → f3 q = f q := fun q z1 z2 => (kF q z2).trans (gF q z1)
          have o3 := (lF 0 (by decide) (by decide)).trans ho
          have q3 := (lF 1 (by decide) (by decide)).trans hq
          have hDk : Dk f3 (126 + 2 * i) (127 + 2 * i) (sz i) (K + 1) (cd i) := Dk_mono (Dk_eq (h6.1 i hi) (lF _ (by omega) (by omega)) (lF _ (by omega) (by omega))) (by omega)
          have hsi : sz i ≤ K := by have := s8_le sz hi; have h' : s8 sz = K := h6.2; omega
          refine mz_go [89] 20 ?_
          simp only [mz_run, ev_0, ev_1, ev_2, ev_3, ev_4, ev_5, ev_6, ev_7, ev_8, ev_9, ev_10, ev_11, ev_12, ev_13, ev_14, ev_15, ev_16, ev_17, ev_18, ev_19, ev_20, ev_21, ev_22, ev_23, ev_24, ev_25, ev_26, ev_27, ev_28, ev_29, ev_30, ev_31, ev_32, ev_33, ev_34, ev_35, ev_36, ev_37, ev_38, ev_39, ev_40, ev_41, ev_42, ev_43, ev_44, ev_45, ev_46, ev_47, ev_48, ev_49, ev_50, ev_51, ev_52, ev_53, ev_54, ev_55, ev_56, ev_57, ev_58, ev_59, ev_60, ev_61, ev_62, ev_63, ev_64, ev_65, ev_66, ev_67, ev_68, ev_69, ev_70, ev_71, ev_72, ev_73, ev_74, ev_75, ev_76, ev_77, ev_78, ev_79, ev_80, ev_81, ev_82, ev_83, mk_lit, mk_fin, mk_cat, mk_fit, mk_nar, mk_fld, mk_cls, mk_ty, mk_isr, List.mem_cons, List.not_mem_nil, or_false, or_true, false_or, true_or, Nat.reduceEqDiff, Nat.reduceAdd, Nat.reduceSub, Nat.reduceLT, Nat.reduceLeDiff, reduceIte, if_true, if_false, List.getElem?_cons_zero, List.getElem?_cons_succ, List.set_cons_zero, List.set_cons_succ, List.length_cons, List.length_nil, mz_s1, mz_s2, mz_cl, true_and, and_true, false_and, and_false, List.append_nil, mk_b0, mk_b1, mk_b2, mk_bn, Value.int.injEq, Option.toList_some, Option.toList_none, List.cons_append, List.nil_append, Classical.not_not, Option.some.injEq, reduceCtorEq, ne_eq, not_true_eq_false, not_false_eq_true, false_implies, true_implies, d_Office_card, j_Office_card, nF_0, o3, q3, vp_in_nI hi (show 8 < 2 ^ 31 by decide), nI_clamp (show i < 2 ^ 31 by omega), deckQ_at hi, va_rf]
          have hDk' := id hDk
          obtain ⟨_, hDo, _, _⟩ := hDk'
          refine mz_callV (by simp only [d_Office_card_89, Nat.reduceAdd]) g_0_80 rfl (fun _ _ h => h) (Dk_add G mk_P (172 + 2 * K + 1 + 1) f3 hDk (by omega) (x := K) (by omega) (nK K (by omega)).1 (by omega)) hDo rfl rfl (by decide) (Nat.le_of_ble_eq_true rfl) rfl ?_; rintro v_ n_ f_ ⟨rfl, rfl, y, z, hfe, hnd⟩
          refine mz_go [] 20 ?_
          simp only [mz_r0, mk_lit, mk_fin, mk_cat, mk_fit, mk_nar, mk_cls, mk_ty, mk_isr, List.mem_cons, List.not_mem_nil, or_false, or_true, false_or, true_or, Nat.reduceEqDiff, Nat.reduceAdd, Nat.reduceSub, Nat.reduceLT, Nat.reduceLeDiff, ↓reduceIte, if_true, if_false, List.getElem?_cons_zero, List.getElem?_cons_succ, List.set_cons_zero, List.set_cons_succ, List.length_cons, List.length_nil, mz_s1, mz_s2, mz_cl, true_and, and_true, false_and, and_false, List.append_nil, mk_b0, mk_b1, mk_b2, mk_bn, Value.int.injEq, Option.toList_some, Option.toList_none, List.cons_append, List.nil_append, Classical.not_not, Option.some.injEq, reduceCtorEq, ne_eq, not_true_eq_false, not_false_eq_true, false_implies, true_implies, ev_0, ev_64, mz_rl d_Office_card_92, mz_rl d_Office_card_93, nF_0]
          subst hc0
          refine Or.inl ⟨i, hi, rfl, hK, fun j hj => (hall j hj).1, rfl, ?_⟩
          have mF : ∀ q, q ≠ 126 + 2 * i → q ≠ 127 + 2 * i → f_ q = f3 q := fun q z1 z2 => by rw [hfe, mz_u_n z1, mz_u_n z2]
          have pF : ∀ q, q ≠ 126 + 2 * i → q ≠ 127 + 2 * i → q ≠ 3 → (q < 172 ∨ q = 1000000000001) → f_ q = f q := fun q z1 z2 z3 z4 => (mF q z1 z2).trans (lF q z3 z4)
          obtain ⟨c1, c2, c3, c4, c5, c6, c7, c8, c9, c10, c11, c12, c13, c14, c15⟩ := h3
          refine CI_3 (MU_n (pF 4 (by omega) (by omega) (by omega) (by omega)) (pF 5 (by omega) (by omega) (by omega) (by omega)) (pF 8 (by omega) (by omega) (by omega) (by omega))) ?_
          refine CI_mk (K' := K + 1) ⟨c1, c2, c3, c4, c5, c6, c7, c8, c9, c10, c11, c12, c13, c14, c15⟩ h4 h5 ⟨t2, ?_⟩ ?_ ?_ ?_ ?_ ?_ (Dk0_mono (Dk0_eq c10 (pF _ (by omega) (by omega) (by omega) (by omega)) (pF _ (by omega) (by omega) (by omega) (by omega))) (by omega)) (Dk0_mono (Dk0_eq c11 (pF _ (by omega) (by omega) (by omega) (by omega)) (pF _ (by omega) (by omega) (by omega) (by omega))) (by omega)) ?_ ?_ (fun q hq => pF q (by omega) (by omega) (by omega) (by omega)) (CD_one h6 hi (by omega) hnd (fun q z1 z2 z3 z4 => pF q z3 z4 (by omega) (by omega)) (by omega)) (s := va_up s K (cpy (cdN a b) (fun _ => 0) 16)) (fun k hk => by rw [mF _ (by omega) (by omega), mF _ (by omega) (by omega)]; exact nK k hk) (by omega) (by omega)
          · rw [mF _ (by omega) (by omega), kF _ (by decide)]; exact t2'
          all_goals (rw [pF _ (by omega) (by omega) (by omega) (by omega)]; assumption)
    · refine mz_go [] 20 ?_
      simp only [mz_r0, mk_lit, mk_fin, mk_cat, mk_fit, mk_nar, mk_cls, mk_ty, mk_isr, List.mem_cons, List.not_mem_nil, or_false, or_true, false_or, true_or, Nat.reduceEqDiff, Nat.reduceAdd, Nat.reduceSub, Nat.reduceLT, Nat.reduceLeDiff, ↓reduceIte, if_true, if_false, List.getElem?_cons_zero, List.getElem?_cons_succ, List.set_cons_zero, List.set_cons_succ, List.length_cons, List.length_nil, mz_s1, mz_s2, mz_cl, true_and, and_true, false_and, and_false, List.append_nil, mk_b0, mk_b1, mk_b2, mk_bn, Value.int.injEq, Option.toList_some, Option.toList_none, List.cons_append, List.nil_append, Classical.not_not, Option.some.injEq, reduceCtorEq, ne_eq, not_true_eq_false, not_false_eq_true, false_implies, true_implies, ev_2, ev_54, ev_0, ev_64, ev_41, ev_39, mz_rl d_Office_card_11, mz_rl d_Office_card_14, mz_rl d_Office_card_17, mz_rl d_Office_card_18, mz_rl d_Office_card_19, mz_rl d_Office_card_20, mz_rl d_Office_card_21, mz_rl d_Office_card_22, j_Office_card_14, nF_0, nI_ltI (show K < 2 ^ 31 by omega) (show 200 < 2 ^ 31 by decide), eq_false hK]
      exact Or.inr ⟨fun z => hK z.2.1, rfl, rfl, CI_rg h⟩
  · refine mz_go [] 20 ?_
    simp only [mz_r0, mk_lit, mk_fin, mk_cat, mk_fit, mk_nar, mk_cls, mk_ty, mk_isr, List.mem_cons, List.not_mem_nil, or_false, or_true, false_or, true_or, Nat.reduceEqDiff, Nat.reduceAdd, Nat.reduceSub, Nat.reduceLT, Nat.reduceLeDiff, ↓reduceIte, if_true, if_false, List.getElem?_cons_zero, List.getElem?_cons_succ, List.set_cons_zero, List.set_cons_succ, List.length_cons, List.length_nil, mz_s1, mz_s2, mz_cl, true_and, and_true, false_and, and_false, List.append_nil, mk_b0, mk_b1, mk_b2, mk_bn, Value.int.injEq, Option.toList_some, Option.toList_none, List.cons_append, List.nil_append, Classical.not_not, Option.some.injEq, reduceCtorEq, ne_eq, not_true_eq_false, not_false_eq_true, false_implies, true_implies, ev_49, ev_41, ev_0, ev_64, mz_rl d_Office_card_4, mz_rl d_Office_card_7, mz_rl d_Office_card_8, mz_rl d_Office_card_17, mz_rl d_Office_card_18, j_Office_card_4, nF_0, eq_false hx]
    exact Or.inr ⟨fun z => hx z.1, rfl, rfl, CI_rg h⟩
/-- cut's answer, and the decks behind it -/
def ctP (f : mz_H) (n K : Nat) (sz : Nat → Nat) (cd s : Nat → Nat → Nat) (x y z : Int32) (v : Option Value) (n' : Nat) (f' : mz_H) : Prop :=
  (∃ i j mv, i < 8 ∧ x = nI i ∧ j < 8 ∧ z = nI j ∧ i ≠ j ∧ mv ≤ sz i ∧ (if y < nI 0 then nI 0 else y) = nI mv ∧ v = some (.int (nI 1)) ∧ n' = n ∧ CI f' n K (va_up (va_up sz i (sz i - mv)) j (sz j + mv)) (va_up (va_up cd i (fun m => cd i (m + mv))) j (fun m => if m < sz j then cd j m else cd i (m - sz j))) s ∧ FrB f f' ∧ MU f f' no_U)
  ∨ (¬ (((0 ≤ x.toInt ∧ x.toInt < 8) ∧ (0 ≤ z.toInt ∧ z.toInt < 8) ∧ x.toInt ≠ z.toInt) ∧ y ≤ nI (sz x.toNatClampNeg)) ∧ v = some (.int (nI 0)) ∧ n' = n ∧ CI f' n K sz cd s ∧ FrB f f' ∧ MU f f' no_U)
set_option maxRecDepth 20000 in
theorem c_Office_cut (G : mz_G) (n : Nat) (f : mz_H) {x y z : Int32} {K : Nat} {sz : Nat → Nat} {cd s : Nat → Nat → Nat} (h : CI f n K sz cd s) :
    mz_Ct G mk_P y_Office_cut b_Office_cut 4 (some .boolean) (r_Office_cut 0 0) [.ref 0, .int x, .int y, .int z] n f (ctP f n K sz cd s x y z) := by
  obtain ⟨lx, h1, h2, h3, h4, h5, h6, h7⟩ := id h
  have ho := h3.1
  have hq := h3.2.1
  refine mk_Ct 0 false [some (.ref 0), some (.int x), some (.int y), some (.int z)] (by decide) rfl (by decide) (Nat.le_of_ble_eq_true rfl) rfl ?_
  refine mz_go [2] 20 ?_
  simp only [mz_r0, mk_lit, mk_fin, mk_cat, mk_fit, mk_nar, mk_cls, mk_ty, mk_isr, List.mem_cons, List.not_mem_nil, or_false, or_true, false_or, true_or, Nat.reduceEqDiff, Nat.reduceAdd, Nat.reduceSub, Nat.reduceLT, Nat.reduceLeDiff, ↓reduceIte, if_true, if_false, List.getElem?_cons_zero, List.getElem?_cons_succ, List.set_cons_zero, List.set_cons_succ, List.length_cons, List.length_nil, mz_s1, mz_s2, mz_cl, true_and, and_true, false_and, and_false, List.append_nil, mk_b0, mk_b1, mk_b2, mk_bn, Value.int.injEq, Option.toList_some, Option.toList_none, List.cons_append, List.nil_append, Classical.not_not, Option.some.injEq, reduceCtorEq, ne_eq, not_true_eq_false, not_false_eq_true, false_implies, true_implies, ev_37, mz_rl d_Office_cut_0, mz_rl d_Office_cut_1, nF_0]
  refine mz_callS (by simp only [d_Office_cut_2, Nat.reduceAdd]) g_0_129 rfl (fun _ _ h => h) (c_Office_areTwoDecks G mk_P n f x z) (by decide) (Nat.le_of_ble_eq_true rfl) rfl ?_; intro v_ n_ f_ h_; obtain ⟨rfl, hn_, hf_⟩ := h_; replace hn_ := hn_.symm; replace hf_ := hf_.symm; subst hn_; subst hf_
  by_cases hx : (0 ≤ x.toInt ∧ x.toInt < 8) ∧ (0 ≤ z.toInt ∧ z.toInt < 8) ∧ x.toInt ≠ z.toInt
  · obtain ⟨i, hi, rfl⟩ := mk_nat (x := x) (N := 8) hx.1.1 hx.1.2 (by decide)
    obtain ⟨j, hj, rfl⟩ := mk_nat (x := z) (N := 8) hx.2.1.1 hx.2.1.2 (by decide)
    have hij : i ≠ j := by rintro rfl; exact hx.2.2 rfl
    have d1 := h6.1 i hi
    have d2 := h6.1 j hj
    have hs8 := s8_le2 sz hi hj hij
    have hs8' : s8 sz = K := h6.2
    have d1' := id d1
    obtain ⟨_, e1, _, _⟩ := d1'
    by_cases hy : y ≤ nI (sz i)
    · obtain ⟨mv, hm, hmv⟩ : ∃ mv, mv ≤ sz i ∧ (if y < nI 0 then nI 0 else y) = nI mv := by
        by_cases q : y < nI 0
        · exact ⟨0, by omega, by rw [if_pos q]⟩
        · rw [mk_lt] at q
          rw [mk_le, mk_nti (show sz i < 2 ^ 31 by omega)] at hy
          have q0 : (nI 0).toInt = 0 := rfl
          obtain ⟨k, hk, rfl⟩ := mk_nat (x := y) (N := sz i + 1) (by omega) (by omega) (by omega)
          refine ⟨k, by omega, ?_⟩
          rw [if_neg]
          rw [mk_lt]; exact q
      refine mz_go [36] 40 ?_
      simp only [mz_r0, mk_lit, mk_fin, mk_cat, mk_fit, mk_nar, mk_cls, mk_ty, mk_isr, List.mem_cons, List.not_mem_nil, or_false, or_true, false_or, true_or, Nat.reduceEqDiff, Nat.reduceAdd, Nat.reduceSub, Nat.reduceLT, Nat.reduceLeDiff, ↓reduceIte, if_true, if_false, List.getElem?_cons_zero, List.getElem?_cons_succ, List.set_cons_zero, List.set_cons_succ, List.length_cons, List.length_nil, mz_s1, mz_s2, mz_cl, true_and, and_true, false_and, and_false, List.append_nil, mk_b0, mk_b1, mk_b2, mk_bn, Value.int.injEq, Option.toList_some, Option.toList_none, List.cons_append, List.nil_append, Classical.not_not, Option.some.injEq, reduceCtorEq, ne_eq, not_true_eq_false, not_false_eq_true, false_implies, true_implies, ev_49, ev_41, ev_79, ft_0_0, fn_0_0, ev_37, ev_76, ft_4_1, fn_4_1, ev_56, ev_0, ev_64, mz_rl d_Office_cut_5, mz_rl d_Office_cut_8, mz_rl d_Office_cut_9, mz_rl d_Office_cut_12, mz_rl d_Office_cut_13, mz_rl d_Office_cut_14, mz_rl d_Office_cut_17, mz_rl d_Office_cut_18, mz_rl d_Office_cut_21, mz_rl d_Office_cut_22, mz_rl d_Office_cut_23, mz_rl d_Office_cut_24, mz_rl d_Office_cut_27, mz_rl d_Office_cut_28, mz_rl d_Office_cut_29, mz_rl d_Office_cut_30, mz_rl d_Office_cut_31, mz_rl d_Office_cut_34, mz_rl d_Office_cut_35, j_Office_cut_5, j_Office_cut_18, nF_0, eq_true hx, ho, hq, vp_in_nI hi (show 8 < 2 ^ 31 by decide), vp_in_nI hj (show 8 < 2 ^ 31 by decide), nI_clamp (show i < 2 ^ 31 by omega), nI_clamp (show j < 2 ^ 31 by omega), deckQ_at hi, deckQ_at hj, va_rf, e1, eq_true hy]
      refine mz_callV (by simp only [d_Office_cut_36, Nat.reduceAdd]) g_0_187 rfl (fun _ _ h => h) (c_Deck_moveFirst G mk_P n f hmv d1 d2 (by omega) (by omega) (by omega) (by omega) (by omega) (by omega) hm (by omega) (by omega) (fun q hq => ⟨_, (h7 q hq).1⟩) ⟨by omega, by omega, by omega, by omega⟩) e1 rfl rfl (by decide) (Nat.le_of_ble_eq_true rfl) rfl ?_; rintro v_ n_ f_ ⟨rfl, rfl, hF, g1, g2⟩
      refine mz_go [] 20 ?_
      simp only [mz_r0, mk_lit, mk_fin, mk_cat, mk_fit, mk_nar, mk_cls, mk_ty, mk_isr, List.mem_cons, List.not_mem_nil, or_false, or_true, false_or, true_or, Nat.reduceEqDiff, Nat.reduceAdd, Nat.reduceSub, Nat.reduceLT, Nat.reduceLeDiff, ↓reduceIte, if_true, if_false, List.getElem?_cons_zero, List.getElem?_cons_succ, List.set_cons_zero, List.set_cons_succ, List.length_cons, List.length_nil, mz_s1, mz_s2, mz_cl, true_and, and_true, false_and, and_false, List.append_nil, mk_b0, mk_b1, mk_b2, mk_bn, Value.int.injEq, Option.toList_some, Option.toList_none, List.cons_append, List.nil_append, Classical.not_not, Option.some.injEq, reduceCtorEq, ne_eq, not_true_eq_false, not_false_eq_true, false_implies, true_implies, ev_0, ev_64, mz_rl d_Office_cut_39, mz_rl d_Office_cut_40, nF_0]
      refine Or.inl ⟨i, j, mv, hi, rfl, hj, rfl, hij, hm, hmv, rfl, rfl, ?_⟩
      obtain ⟨c1, c2, c3, c4, c5, c6, c7, c8, c9, c10, c11, c12, c13, c14, c15⟩ := h3
      refine CI_3 (MU_n (hF 4 (by omega) (by omega) (by omega) (by omega)) (hF 5 (by omega) (by omega) (by omega) (by omega)) (hF 8 (by omega) (by omega) (by omega) (by omega))) ?_
      refine CI_mk ⟨c1, c2, c3, c4, c5, c6, c7, c8, c9, c10, c11, c12, c13, c14, c15⟩ h4 h5 ?_ ?_ ?_ ?_ ?_ ?_ (Dk0_eq c10 (hF _ (by omega) (by omega) (by omega) (by omega)) (hF _ (by omega) (by omega) (by omega) (by omega))) (Dk0_eq c11 (hF _ (by omega) (by omega) (by omega) (by omega)) (hF _ (by omega) (by omega) (by omega) (by omega))) ?_ ?_ (fun q hq => hF q (by omega) (by omega) (by omega) (by omega)) (CD_two h6 hi hj hij g1 g2 (fun q z1 z2 z3 z4 z5 z6 => hF q z3 z4 z5 z6) (by omega)) (Cd_eq h7 h2 (fun q _ _ => hF q (by omega) (by omega) (by omega) (by omega))) h2 h1
      all_goals (rw [hF _ (by omega) (by omega) (by omega) (by omega)]; assumption)
    · refine mz_go [] 40 ?_
      simp only [mz_r0, mk_lit, mk_fin, mk_cat, mk_fit, mk_nar, mk_cls, mk_ty, mk_isr, List.mem_cons, List.not_mem_nil, or_false, or_true, false_or, true_or, Nat.reduceEqDiff, Nat.reduceAdd, Nat.reduceSub, Nat.reduceLT, Nat.reduceLeDiff, ↓reduceIte, if_true, if_false, List.getElem?_cons_zero, List.getElem?_cons_succ, List.set_cons_zero, List.set_cons_succ, List.length_cons, List.length_nil, mz_s1, mz_s2, mz_cl, true_and, and_true, false_and, and_false, List.append_nil, mk_b0, mk_b1, mk_b2, mk_bn, Value.int.injEq, Option.toList_some, Option.toList_none, List.cons_append, List.nil_append, Classical.not_not, Option.some.injEq, reduceCtorEq, ne_eq, not_true_eq_false, not_false_eq_true, false_implies, true_implies, ev_49, ev_41, ev_79, ft_0_0, fn_0_0, ev_37, ev_76, ft_4_1, fn_4_1, ev_56, ev_0, ev_64, mz_rl d_Office_cut_5, mz_rl d_Office_cut_8, mz_rl d_Office_cut_9, mz_rl d_Office_cut_12, mz_rl d_Office_cut_13, mz_rl d_Office_cut_14, mz_rl d_Office_cut_17, mz_rl d_Office_cut_18, mz_rl d_Office_cut_21, mz_rl d_Office_cut_22, mz_rl d_Office_cut_23, mz_rl d_Office_cut_24, mz_rl d_Office_cut_27, mz_rl d_Office_cut_28, mz_rl d_Office_cut_29, mz_rl d_Office_cut_30, mz_rl d_Office_cut_31, mz_rl d_Office_cut_34, mz_rl d_Office_cut_35, mz_rl d_Office_cut_36, j_Office_cut_5, j_Office_cut_18, nF_0, eq_true hx, ho, hq, vp_in_nI hi (show 8 < 2 ^ 31 by decide), nI_clamp (show i < 2 ^ 31 by omega), deckQ_at hi, va_rf, e1, eq_false hy]
      exact Or.inr ⟨fun q => hy (by rw [nI_clamp (show i < 2 ^ 31 by omega)] at q; exact q.2), rfl, rfl, CI_rg h⟩
  · refine mz_go [] 20 ?_
    simp only [mz_r0, mk_lit, mk_fin, mk_cat, mk_fit, mk_nar, mk_cls, mk_ty, mk_isr, List.mem_cons, List.not_mem_nil, or_false, or_true, false_or, true_or, Nat.reduceEqDiff, Nat.reduceAdd, Nat.reduceSub, Nat.reduceLT, Nat.reduceLeDiff, ↓reduceIte, if_true, if_false, List.getElem?_cons_zero, List.getElem?_cons_succ, List.set_cons_zero, List.set_cons_succ, List.length_cons, List.length_nil, mz_s1, mz_s2, mz_cl, true_and, and_true, false_and, and_false, List.append_nil, mk_b0, mk_b1, mk_b2, mk_bn, Value.int.injEq, Option.toList_some, Option.toList_none, List.cons_append, List.nil_append, Classical.not_not, Option.some.injEq, reduceCtorEq, ne_eq, not_true_eq_false, not_false_eq_true, false_implies, true_implies, ev_49, ev_41, ev_79, ft_0_0, fn_0_0, ev_37, ev_76, ft_4_1, fn_4_1, ev_56, ev_0, ev_64, mz_rl d_Office_cut_5, mz_rl d_Office_cut_8, mz_rl d_Office_cut_9, mz_rl d_Office_cut_12, mz_rl d_Office_cut_13, mz_rl d_Office_cut_14, mz_rl d_Office_cut_17, mz_rl d_Office_cut_18, mz_rl d_Office_cut_21, mz_rl d_Office_cut_22, mz_rl d_Office_cut_23, mz_rl d_Office_cut_24, mz_rl d_Office_cut_27, mz_rl d_Office_cut_28, mz_rl d_Office_cut_29, mz_rl d_Office_cut_30, mz_rl d_Office_cut_31, mz_rl d_Office_cut_34, mz_rl d_Office_cut_35, mz_rl d_Office_cut_36, j_Office_cut_5, j_Office_cut_18, nF_0, eq_false hx]
    exact Or.inr ⟨fun q => hx q.1, rfl, rfl, CI_rg h⟩
end
section
/-! what a call may be asked -/
def okPs (x y : Int32) : Prop := (0 ≤ x.toInt ∧ x.toInt < 8) ∧ 0 ≤ y.toInt ∧ y.toInt < 16
def okSo (x y z : Int32) : Prop := (0 ≤ x.toInt ∧ x.toInt < 8) ∧ 0 ≤ y.toInt ∧ y.toInt ≤ z.toInt ∧ z.toInt < 16
def okMg (x y z w : Int32) : Prop := ((0 ≤ x.toInt ∧ x.toInt < 8) ∧ (0 ≤ y.toInt ∧ y.toInt < 8) ∧ x.toInt ≠ y.toInt) ∧ 0 ≤ z.toInt ∧ z.toInt ≤ w.toInt ∧ w.toInt < 16
def okMt (x y u z w : Int32) : Prop := ((0 ≤ x.toInt ∧ x.toInt < 8) ∧ (0 ≤ y.toInt ∧ y.toInt < 8) ∧ x.toInt ≠ y.toInt) ∧ ((0 ≤ x.toInt ∧ x.toInt < 8) ∧ (0 ≤ u.toInt ∧ u.toInt < 8) ∧ x.toInt ≠ u.toInt) ∧ ((0 ≤ y.toInt ∧ y.toInt < 8) ∧ (0 ≤ u.toInt ∧ u.toInt < 8) ∧ y.toInt ≠ u.toInt) ∧ 0 ≤ z.toInt ∧ z.toInt ≤ w.toInt ∧ w.toInt < 16
def okRp (x y z : Int32) : Prop := (0 ≤ x.toInt ∧ x.toInt < 4) ∧ (0 ≤ y.toInt ∧ y.toInt < 8) ∧ (0 ≤ z.toInt ∧ z.toInt < 8) ∧ y.toInt ≠ z.toInt
def okGa (x y z : Int32) : Prop := (0 ≤ x.toInt ∧ x.toInt < 4) ∧ (0 ≤ y.toInt ∧ y.toInt < 8) ∧ 0 ≤ z.toInt ∧ z.toInt < 16
def okTa (x y : Int32) : Prop := (0 ≤ x.toInt ∧ x.toInt < 4) ∧ 0 ≤ y.toInt ∧ y.toInt < 8
def okSg (sz : Nat → Nat) (x y z : Int32) : Prop := (0 ≤ x.toInt ∧ x.toInt < 8) ∧ ¬ y < 0 ∧ ¬ nI (sz x.toNatClampNeg) ≤ y ∧ 0 ≤ z.toInt ∧ z.toInt < 16
def okSi (S : Nat → Nat) (x y z : Int32) : Prop := ∃ i j k, i < 8 ∧ x = nI i ∧ j < S i ∧ y = nI j ∧ k < 16 ∧ z = nI k
def siP (f : mz_H) (n K : Nat) (sz : Nat → Nat) (cd s : Nat → Nat → Nat) (x y z : Int32) (v : Option Value) (n' : Nat) (f' : mz_H) : Prop := (∃ i j k, i < 8 ∧ x = nI i ∧ j < sz i ∧ y = nI j ∧ k < 16 ∧ z = nI k ∧ v = some (.int (nI (s (cd i j) k)))) ∧ n' = n ∧ CI f' n K sz cd s ∧ FrB f f' ∧ MU f f' no_U
/-- both decks are sorted -/
def srM (s cd : Nat → Nat → Nat) (sz : Nat → Nat) (x y z w : Int32) : Prop := srtB s z.toNatClampNeg w.toNatClampNeg (cd x.toNatClampNeg) 1 (sz x.toNatClampNeg - 1) = true ∧ srtB s z.toNatClampNeg w.toNatClampNeg (cd y.toNatClampNeg) 1 (sz y.toNatClampNeg - 1) = true
theorem srM_n {s cd : Nat → Nat → Nat} {sz : Nat → Nat} {i j p k : Nat} (hi : i < 8) (hj : j < 8) (hp : p < 16) (hk : k < 16) : srM s cd sz (nI i) (nI j) (nI p) (nI k) ↔ srtB s p k (cd i) 1 (sz i - 1) = true ∧ srtB s p k (cd j) 1 (sz j - 1) = true := by
  unfold srM
  rw [nI_clamp (show p < 2 ^ 31 by omega), nI_clamp (show k < 2 ^ 31 by omega), nI_clamp (show i < 2 ^ 31 by omega), nI_clamp (show j < 2 ^ 31 by omega)]
/-- a call that sorts a deck -/
theorem CI_sH {f : mz_H} {n K lx i : Nat} {sz : Nat → Nat} {cd s : Nat → Nat → Nat} (h1 : n = 172 + 2 * K) (h2 : K ≤ 200) (h3 : CM f K) (h4 : Tb f lx) (h5 : CB f) (h6 : CD f K sz cd) (h7 : Cd f K s) (hi : i < 8) {ps : Int32} {gp : Nat → Int32} {T g : Nat → Option Nat} {c : Nat → Nat} (hP : Ps g (sz i) c K) : CI (sH f (127 + 2 * i) ps gp T g) n K sz (va_up cd i c) s ∧ FrB f (sH f (127 + 2 * i) ps gp T g) := by
  obtain ⟨c1, c2, c3, c4, c5, c6, c7, c8, c9, c10, c11, c12, c13, c14, c15⟩ := id h3
  obtain ⟨F, hF0⟩ : ∃ F, F = sH f (127 + 2 * i) ps gp T g := ⟨_, rfl⟩
  rw [← hF0]
  have hF : ∀ z, z ≠ 5 → z ≠ 6 → z ≠ 7 → z ≠ 127 + 2 * i → F z = f z := fun z z1 z2 z3 z4 => by rw [hF0]; unfold sH; rw [mz_u_n z4, mz_u_n z3, mz_u_n z2, mz_u_n z1]
  have f5 : F 5 = .inr (9, [.ref 6, .ref 7, .int ps]) := by rw [hF0]; unfold sH; rw [mz_u_n (by omega), mz_u_n (by omega), mz_u_n (by omega), mz_u_s]
  have f6 : F 6 = aI 11 gp := by rw [hF0]; unfold sH; rw [mz_u_n (by omega), mz_u_n (by omega), mz_u_s]
  have f7 : F 7 = aQ 6 200 T := by rw [hF0]; unfold sH; rw [mz_u_n (by omega), mz_u_s]
  have fa : F (127 + 2 * i) = aQ 6 200 g := by rw [hF0]; exact mz_u_s _ _ _
  obtain ⟨_, e1, _, _⟩ := h6.1 i hi
  have hCD := CD_one (F := F) (r := sz i) (c1 := c) h6 hi (Nat.le_refl _) ⟨g, (hF _ (by omega) (by omega) (by omega) (by omega)).trans e1, fa, hP⟩ (fun q z1 z2 z3 z4 => hF q (by omega) (by omega) (by omega) z4) rfl
  rw [vu_id] at hCD
  refine CI_mk h3 h4 h5 ?_ ?_ ⟨_, f5⟩ ⟨_, f6⟩ ⟨_, f7⟩ ?_ (Dk0_eq c10 (hF _ (by omega) (by omega) (by omega) (by omega)) (hF _ (by omega) (by omega) (by omega) (by omega))) (Dk0_eq c11 (hF _ (by omega) (by omega) (by omega) (by omega)) (hF _ (by omega) (by omega) (by omega) (by omega))) ?_ ?_ (fun q hq => hF q (by omega) (by omega) (by omega) (by omega)) hCD (Cd_eq h7 h2 (fun q _ _ => hF q (by omega) (by omega) (by omega) (by omega))) h2 h1
  all_goals (rw [hF _ (by omega) (by omega) (by omega) (by omega)]; assumption)
theorem MU_sH {f : mz_H} {i : Nat} {v d : Int32} {gp : Nat → Int32} {T g : Nat → Option Nat} (k5 : f 5 = .inr (9, [.ref 6, .ref 7, .int v])) : MU f (sH f (127 + 2 * i) (v + d) gp T g) (ps_U d) := by
  have hF : ∀ z, z ≠ 5 → z ≠ 6 → z ≠ 7 → z ≠ 127 + 2 * i → sH f (127 + 2 * i) (v + d) gp T g z = f z := fun z z1 z2 z3 z4 => by unfold sH; rw [mz_u_n z4, mz_u_n z3, mz_u_n z2, mz_u_n z1]
  refine MU_p (hF 4 (by omega) (by omega) (by omega) (by omega)) (hF 8 (by omega) (by omega) (by omega) (by omega)) k5 ?_
  unfold sH; rw [mz_u_n (by omega), mz_u_n (by omega), mz_u_n (by omega), mz_u_s]
/-- pass: its answer, and the deck behind it -/
def psP (f : mz_H) (n K : Nat) (sz : Nat → Nat) (cd s : Nat → Nat → Nat) (x y : Int32) (z : Bool) (v : Option Value) (n' : Nat) (f' : mz_H) : Prop := ∃ i j c', i < 8 ∧ x = nI i ∧ j < 16 ∧ y = nI j ∧ v = some (.int (nI (us (fun r => cntP (fun m => pk s j z (cd i m)) r (sz i)) 11))) ∧ n' = n ∧ CI f' n K sz (va_up cd i c') s ∧ FrB f f' ∧ MU f f' (ps_U (nI 1)) ∧ ∀ m, m < sz i → c' (posP (fun m => pk s j z (cd i m)) (sz i) m) = cd i m
/-- sort: its answer, and the deck behind it -/
def soP (f : mz_H) (n K : Nat) (sz : Nat → Nat) (cd s : Nat → Nat → Nat) (x y z : Int32) (v : Option Value) (n' : Nat) (f' : mz_H) : Prop := ∃ i j k N c' π, i < 8 ∧ x = nI i ∧ j ≤ k ∧ k < 16 ∧ y = nI j ∧ z = nI k ∧ N = (if srtB s j k (cd i) 1 (sz i - 1) = true then 0 else sm (wpN s (cd i) (sz i)) (k + 1) - sm (wpN s (cd i) (sz i)) j) ∧ v = some (.int (nI N)) ∧ n' = n ∧ CI f' n K sz (va_up cd i c') s ∧ FrB f f' ∧ MU f f' (ps_U (nI N)) ∧ (∀ r, r < sz i → c' r = cd i (π r)) ∧ enu (fun m => keyC s j k (cd i m)) (sz i) π
/-- merge -/
def mgP (f : mz_H) (n K : Nat) (sz : Nat → Nat) (cd s : Nat → Nat → Nat) (x y z w : Int32) (v : Option Value) (n' : Nat) (f' : mz_H) : Prop := ∃ i j p k, i < 8 ∧ x = nI i ∧ j < 8 ∧ y = nI j ∧ i ≠ j ∧ p ≤ k ∧ k < 16 ∧ z = nI p ∧ w = nI k ∧ srtB s p k (cd i) 1 (sz i - 1) = true ∧ srtB s p k (cd j) 1 (sz j - 1) = true ∧ v = some (.int (nI (sz i + sz j))) ∧ n' = n ∧ CI f' n K (va_up (va_up sz i (sz i + sz j)) j 0) (va_up (va_up cd i (mgT s p k (cd i) (cd j) (sz i) (sz j) (sz i + sz j)).2.2) j (fun _ => 0)) s ∧ FrB f f' ∧ MU f f' (br_U (nI (sz j)))
/-- match -/
def mtQ (f : mz_H) (n K : Nat) (sz : Nat → Nat) (cd s : Nat → Nat → Nat) (x y u z w : Int32) (v : Option Value) (n' : Nat) (f' : mz_H) : Prop := ∃ i j l p k c1 c2 R, i < 8 ∧ x = nI i ∧ j < 8 ∧ y = nI j ∧ l < 8 ∧ u = nI l ∧ i ≠ j ∧ i ≠ l ∧ j ≠ l ∧ p ≤ k ∧ k < 16 ∧ z = nI p ∧ w = nI k ∧ srtB s p k (cd i) 1 (sz i - 1) = true ∧ srtB s p k (cd j) 1 (sz j - 1) = true ∧ R = mtF s p k (cd i) (cd j) (sz i) (sz j) (sz i + sz j) 0 0 none ((0, c1), (0, c2), (sz l, cd l)) ∧ v = some (.int (nI (R.2.2.1 - sz l))) ∧ n' = n ∧ CI f' n K (va_up (va_up (va_up sz i R.1.1) j R.2.1.1) l R.2.2.1) (va_up (va_up (va_up cd i R.1.2) j R.2.1.2) l R.2.2.2) s ∧ FrB f f' ∧ MU f f' (br_U (nI (R.2.2.1 - sz l)))
set_option maxRecDepth 20000 in
theorem x_Office_pass (G : mz_G) (hfl : G.1.flags = pinnedFlags ++ [noTraceFlag]) (n : Nat) (f : mz_H) {x y : Int32} (z : Bool) {K : Nat} {sz : Nat → Nat} {cd s : Nat → Nat → Nat} (h : CI f n K sz cd s) :
    mz_X G mk_P 0 false b_Office_pass 4 (some .int) (r_Office_pass 1 6) (psP f n K sz cd s x y z) (fun ec n' f' => ec = "java/lang/IllegalArgumentException" ∧ n' = n ∧ f' = f ∧ ¬ okPs x y) 0 [some (.ref 0), some (.int x), some (.int y), some (.int (mk_b (z = true)))] [] 0 0 n f := by
  obtain ⟨lx, h1, h2, h3, h4, h5, h6, h7⟩ := id h
  have ho := h3.1
  have hq := h3.2.1
  have hb := h3.2.2.1
  have hs8 : s8 sz = K := h6.2
  obtain ⟨c1, c2, c3, c4, c5, c6, c7, c8, c9, c10, c11, c12, c13, c14, c15⟩ := id h3
  refine mz_go [1] 20 ?_
  simp only [mz_r0, mk_lit, mk_fin, mk_cat, mk_fit, mk_nar, mk_cls, mk_ty, mk_isr, List.mem_cons, List.not_mem_nil, or_false, or_true, false_or, true_or, Nat.reduceEqDiff, Nat.reduceAdd, Nat.reduceSub, Nat.reduceLT, Nat.reduceLeDiff, ↓reduceIte, if_true, if_false, List.getElem?_cons_zero, List.getElem?_cons_succ, List.set_cons_zero, List.set_cons_succ, List.length_cons, List.length_nil, mz_s1, mz_s2, mz_cl, true_and, and_true, false_and, and_false, List.append_nil, mk_b0, mk_b1, mk_b2, mk_bn, Value.int.injEq, Option.toList_some, Option.toList_none, List.cons_append, List.nil_append, Classical.not_not, Option.some.injEq, reduceCtorEq, ne_eq, not_true_eq_false, not_false_eq_true, false_implies, true_implies, ev_37, mz_rl d_Office_pass_0, nF_0]
  refine mz_callS (by simp only [d_Office_pass_1, Nat.reduceAdd]) g_0_62 rfl (fun _ _ h => h) (c_Office_isDeck G mk_P n f x) (by decide) (Nat.le_of_ble_eq_true rfl) rfl ?_; intro v_ n_ f_ h_; obtain ⟨rfl, hn_, hf_⟩ := h_; replace hn_ := hn_.symm; replace hf_ := hf_.symm; subst hn_; subst hf_
  by_cases hx : 0 ≤ x.toInt ∧ x.toInt < 8
  · refine mz_go [8] 20 ?_
    simp only [mz_r0, mk_lit, mk_fin, mk_cat, mk_fit, mk_nar, mk_cls, mk_ty, mk_isr, List.mem_cons, List.not_mem_nil, or_false, or_true, false_or, true_or, Nat.reduceEqDiff, Nat.reduceAdd, Nat.reduceSub, Nat.reduceLT, Nat.reduceLeDiff, ↓reduceIte, if_true, if_false, List.getElem?_cons_zero, List.getElem?_cons_succ, List.set_cons_zero, List.set_cons_succ, List.length_cons, List.length_nil, mz_s1, mz_s2, mz_cl, true_and, and_true, false_and, and_false, List.append_nil, mk_b0, mk_b1, mk_b2, mk_bn, Value.int.injEq, Option.toList_some, Option.toList_none, List.cons_append, List.nil_append, Classical.not_not, Option.some.injEq, reduceCtorEq, ne_eq, not_true_eq_false, not_false_eq_true, false_implies, true_implies, ev_49, ev_37, mz_rl d_Office_pass_4, mz_rl d_Office_pass_7, mz_rl d_Office_pass_14, j_Office_pass_4, nF_0, eq_true hx]
    refine mz_callS (by simp only [d_Office_pass_8, Nat.reduceAdd]) g_0_106 rfl (fun _ _ h => h) (c_Office_isColumn G mk_P n f y) (by decide) (Nat.le_of_ble_eq_true rfl) rfl ?_; intro v_ n_ f_ h_; obtain ⟨rfl, hn_, hf_⟩ := h_; replace hn_ := hn_.symm; replace hf_ := hf_.symm; subst hn_; subst hf_
    by_cases hy : 0 ≤ y.toInt ∧ y.toInt < 16
    · obtain ⟨i, hi, rfl⟩ := mk_nat (x := x) (N := 8) hx.1 hx.2 (by decide)
      obtain ⟨j, hj, rfl⟩ := mk_nat (x := y) (N := 16) hy.1 hy.2 (by decide)
      obtain ⟨g, e1, e2, e3⟩ := h6.1 i hi
      obtain ⟨v5, k5⟩ := c6
      obtain ⟨gp, k6⟩ := c7
      obtain ⟨T, k7⟩ := c8
      have hsi := s8_le sz hi
      refine mz_go [36] 20 ?_
      simp only [mz_r0, mk_lit, mk_fin, mk_cat, mk_fit, mk_nar, mk_cls, mk_ty, mk_isr, List.mem_cons, List.not_mem_nil, or_false, or_true, false_or, true_or, Nat.reduceEqDiff, Nat.reduceAdd, Nat.reduceSub, Nat.reduceLT, Nat.reduceLeDiff, ↓reduceIte, if_true, if_false, List.getElem?_cons_zero, List.getElem?_cons_succ, List.set_cons_zero, List.set_cons_succ, List.length_cons, List.length_nil, mz_s1, mz_s2, mz_cl, true_and, and_true, false_and, and_false, List.append_nil, mk_b0, mk_b1, mk_b2, mk_bn, Value.int.injEq, Option.toList_some, Option.toList_none, List.cons_append, List.nil_append, Classical.not_not, Option.some.injEq, reduceCtorEq, ne_eq, not_true_eq_false, not_false_eq_true, false_implies, true_implies, ev_51, ev_41, ev_79, ft_0_4, fn_0_4, ft_0_0, fn_0_0, ev_37, ev_76, mz_rl d_Office_pass_11, mz_rl d_Office_pass_14, mz_rl d_Office_pass_24, mz_rl d_Office_pass_25, mz_rl d_Office_pass_28, mz_rl d_Office_pass_29, mz_rl d_Office_pass_32, mz_rl d_Office_pass_33, mz_rl d_Office_pass_34, mz_rl d_Office_pass_35, j_Office_pass_11, nF_0, eq_true hy, ho, hq, vp_in_nI hi (show 8 < 2 ^ 31 by decide), nI_clamp (show i < 2 ^ 31 by omega), deckQ_at hi, va_rf]
      refine mz_callV (by simp only [d_Office_pass_36, Nat.reduceAdd]) g_0_116 rfl (fun _ _ h => h) (c_Sorter_passOnce G mk_P n f z k5 e1 e2 k6 k7 (by omega) (by omega) (by omega) (by omega) h7 e3 hj) k5 rfl rfl (by decide) (Nat.le_of_ble_eq_true rfl) rfl ?_; rintro v_ n_ f_ ⟨q, hq_, rfl, rfl, rfl⟩
      have hqlt : ∀ m, m < sz i → q m < 11 := fun m hm => by rw [hq_]; exact pok_lt ((h7 _ (e3 m hm).2).2.2 j hj)
      obtain ⟨c', hc', hc2⟩ := pord_ex (T := T) e3 hqlt
      refine mz_go [] 20 ?_
      simp only [mz_r0, mk_lit, mk_fin, mk_cat, mk_fit, mk_nar, mk_cls, mk_ty, mk_isr, List.mem_cons, List.not_mem_nil, or_false, or_true, false_or, true_or, Nat.reduceEqDiff, Nat.reduceAdd, Nat.reduceSub, Nat.reduceLT, Nat.reduceLeDiff, ↓reduceIte, if_true, if_false, List.getElem?_cons_zero, List.getElem?_cons_succ, List.set_cons_zero, List.set_cons_succ, List.length_cons, List.length_nil, mz_s1, mz_s2, mz_cl, true_and, and_true, false_and, and_false, List.append_nil, mk_b0, mk_b1, mk_b2, mk_bn, Value.int.injEq, Option.toList_some, Option.toList_none, List.cons_append, List.nil_append, Classical.not_not, Option.some.injEq, reduceCtorEq, ne_eq, not_true_eq_false, not_false_eq_true, false_implies, true_implies, ev_64, mz_rl d_Office_pass_39, nF_0]
      subst hq_
      have hCI := fun gp9 T9 => CI_sH (ps := v5 + nI 1) (gp := gp9) (T := T9) h1 h2 h3 h4 h5 h6 h7 hi hc'
      exact ⟨i, j, c', hi, rfl, hj, rfl, rfl, rfl, (hCI _ _).1, (hCI _ _).2, MU_sH k5, hc2⟩
    · refine mz_go [14] 20 ?_
      simp only [mz_r0, mk_lit, mk_fin, mk_cat, mk_fit, mk_nar, mk_cls, mk_ty, mk_isr, List.mem_cons, List.not_mem_nil, or_false, or_true, false_or, true_or, Nat.reduceEqDiff, Nat.reduceAdd, Nat.reduceSub, Nat.reduceLT, Nat.reduceLeDiff, ↓reduceIte, if_true, if_false, List.getElem?_cons_zero, List.getElem?_cons_succ, List.set_cons_zero, List.set_cons_succ, List.length_cons, List.length_nil, mz_s1, mz_s2, mz_cl, true_and, and_true, false_and, and_false, List.append_nil, mk_b0, mk_b1, mk_b2, mk_bn, Value.int.injEq, Option.toList_some, Option.toList_none, List.cons_append, List.nil_append, Classical.not_not, Option.some.injEq, reduceCtorEq, ne_eq, not_true_eq_false, not_false_eq_true, false_implies, true_implies, ev_51, ev_41, ev_79, ft_0_4, fn_0_4, ft_0_0, fn_0_0, ev_37, ev_76, mz_rl d_Office_pass_11, mz_rl d_Office_pass_24, mz_rl d_Office_pass_25, mz_rl d_Office_pass_28, mz_rl d_Office_pass_29, mz_rl d_Office_pass_32, mz_rl d_Office_pass_33, mz_rl d_Office_pass_34, mz_rl d_Office_pass_35, mz_rl d_Office_pass_36, j_Office_pass_11, nF_0, eq_false hy]
      exact mz_throw hfl (by decide) (by simp only [d_Office_pass]) (by simp only [d_Office_pass, Nat.reduceAdd]) (by simp only [d_Office_pass, Nat.reduceAdd]) (by simp only [d_Office_pass, Nat.reduceAdd]) (by simp only [d_Office_pass, Nat.reduceAdd]) th_s_111 th_w_113 (by decide +kernel) th_fits (by decide) (by decide) (by decide) (by decide) ⟨rfl, rfl, rfl, fun q => hy q.2⟩
  · refine mz_go [14] 20 ?_
    simp only [mz_r0, mk_lit, mk_fin, mk_cat, mk_fit, mk_nar, mk_cls, mk_ty, mk_isr, List.mem_cons, List.not_mem_nil, or_false, or_true, false_or, true_or, Nat.reduceEqDiff, Nat.reduceAdd, Nat.reduceSub, Nat.reduceLT, Nat.reduceLeDiff, ↓reduceIte, if_true, if_false, List.getElem?_cons_zero, List.getElem?_cons_succ, List.set_cons_zero, List.set_cons_succ, List.length_cons, List.length_nil, mz_s1, mz_s2, mz_cl, true_and, and_true, false_and, and_false, List.append_nil, mk_b0, mk_b1, mk_b2, mk_bn, Value.int.injEq, Option.toList_some, Option.toList_none, List.cons_append, List.nil_append, Classical.not_not, Option.some.injEq, reduceCtorEq, ne_eq, not_true_eq_false, not_false_eq_true, false_implies, true_implies, ev_49, ev_37, mz_rl d_Office_pass_4, mz_rl d_Office_pass_7, mz_rl d_Office_pass_8, j_Office_pass_4, nF_0, eq_false hx]
    exact mz_throw hfl (by decide) (by simp only [d_Office_pass]) (by simp only [d_Office_pass, Nat.reduceAdd]) (by simp only [d_Office_pass, Nat.reduceAdd]) (by simp only [d_Office_pass, Nat.reduceAdd]) (by simp only [d_Office_pass, Nat.reduceAdd]) th_s_111 th_w_113 (by decide +kernel) th_fits (by decide) (by decide) (by decide) (by decide) ⟨rfl, rfl, rfl, fun q => hx q.1⟩
set_option maxRecDepth 20000 in
theorem x_Office_sort (G : mz_G) (hfl : G.1.flags = pinnedFlags ++ [noTraceFlag]) (n : Nat) (f : mz_H) {x y z : Int32} {K : Nat} {sz : Nat → Nat} {cd s : Nat → Nat → Nat} (h : CI f n K sz cd s) :
    mz_X G mk_P 0 false b_Office_sort 4 (some .int) (r_Office_sort 1 6) (soP f n K sz cd s x y z) (fun ec n' f' => ec = "java/lang/IllegalArgumentException" ∧ n' = n ∧ f' = f ∧ ¬ okSo x y z) 0 [some (.ref 0), some (.int x), some (.int y), some (.int z)] [] 0 0 n f := by
  obtain ⟨lx, h1, h2, h3, h4, h5, h6, h7⟩ := id h
  have ho := h3.1
  have hq := h3.2.1
  have hb := h3.2.2.1
  have hs8 : s8 sz = K := h6.2
  obtain ⟨c1, c2, c3, c4, c5, c6, c7, c8, c9, c10, c11, c12, c13, c14, c15⟩ := id h3
  refine mz_go [1] 20 ?_
  simp only [mz_r0, mk_lit, mk_fin, mk_cat, mk_fit, mk_nar, mk_cls, mk_ty, mk_isr, List.mem_cons, List.not_mem_nil, or_false, or_true, false_or, true_or, Nat.reduceEqDiff, Nat.reduceAdd, Nat.reduceSub, Nat.reduceLT, Nat.reduceLeDiff, ↓reduceIte, if_true, if_false, List.getElem?_cons_zero, List.getElem?_cons_succ, List.set_cons_zero, List.set_cons_succ, List.length_cons, List.length_nil, mz_s1, mz_s2, mz_cl, true_and, and_true, false_and, and_false, List.append_nil, mk_b0, mk_b1, mk_b2, mk_bn, Value.int.injEq, Option.toList_some, Option.toList_none, List.cons_append, List.nil_append, Classical.not_not, Option.some.injEq, reduceCtorEq, ne_eq, not_true_eq_false, not_false_eq_true, false_implies, true_implies, ev_37, mz_rl d_Office_sort_0, nF_0]
  refine mz_callS (by simp only [d_Office_sort_1, Nat.reduceAdd]) g_0_62 rfl (fun _ _ h => h) (c_Office_isDeck G mk_P n f x) (by decide) (Nat.le_of_ble_eq_true rfl) rfl ?_; intro v_ n_ f_ h_; obtain ⟨rfl, hn_, hf_⟩ := h_; replace hn_ := hn_.symm; replace hf_ := hf_.symm; subst hn_; subst hf_
  by_cases hx : 0 ≤ x.toInt ∧ x.toInt < 8
  · refine mz_go [9] 20 ?_
    simp only [mz_r0, mk_lit, mk_fin, mk_cat, mk_fit, mk_nar, mk_cls, mk_ty, mk_isr, List.mem_cons, List.not_mem_nil, or_false, or_true, false_or, true_or, Nat.reduceEqDiff, Nat.reduceAdd, Nat.reduceSub, Nat.reduceLT, Nat.reduceLeDiff, ↓reduceIte, if_true, if_false, List.getElem?_cons_zero, List.getElem?_cons_succ, List.set_cons_zero, List.set_cons_succ, List.length_cons, List.length_nil, mz_s1, mz_s2, mz_cl, true_and, and_true, false_and, and_false, List.append_nil, mk_b0, mk_b1, mk_b2, mk_bn, Value.int.injEq, Option.toList_some, Option.toList_none, List.cons_append, List.nil_append, Classical.not_not, Option.some.injEq, reduceCtorEq, ne_eq, not_true_eq_false, not_false_eq_true, false_implies, true_implies, ev_49, ev_37, mz_rl d_Office_sort_4, mz_rl d_Office_sort_7, mz_rl d_Office_sort_8, mz_rl d_Office_sort_15, j_Office_sort_4, nF_0, eq_true hx]
    refine mz_callS (by simp only [d_Office_sort_9, Nat.reduceAdd]) g_0_120 rfl (fun _ _ h => h) (c_Office_isField G mk_P n f y z) (by decide) (Nat.le_of_ble_eq_true rfl) rfl ?_; intro v_ n_ f_ h_; obtain ⟨rfl, hn_, hf_⟩ := h_; replace hn_ := hn_.symm; replace hf_ := hf_.symm; subst hn_; subst hf_
    by_cases hy : 0 ≤ y.toInt ∧ y.toInt ≤ z.toInt ∧ z.toInt < 16
    · obtain ⟨i, hi, rfl⟩ := mk_nat (x := x) (N := 8) hx.1 hx.2 (by decide)
      obtain ⟨j, hj, rfl⟩ := mk_nat (x := y) (N := 16) hy.1 (by omega) (by decide)
      obtain ⟨k, hk, rfl⟩ := mk_nat (x := z) (N := 16) (by omega) hy.2.2 (by decide)
      have hjk : j ≤ k := by have := hy.2.1; rw [mk_nti (show j < 2 ^ 31 by omega), mk_nti (show k < 2 ^ 31 by omega)] at this; omega
      obtain ⟨g, e1, e2, e3⟩ := h6.1 i hi
      obtain ⟨v5, k5⟩ := c6
      obtain ⟨gp, k6⟩ := c7
      obtain ⟨T, k7⟩ := c8
      have hsi := s8_le sz hi
      refine mz_go [37] 20 ?_
      simp only [mz_r0, mk_lit, mk_fin, mk_cat, mk_fit, mk_nar, mk_cls, mk_ty, mk_isr, List.mem_cons, List.not_mem_nil, or_false, or_true, false_or, true_or, Nat.reduceEqDiff, Nat.reduceAdd, Nat.reduceSub, Nat.reduceLT, Nat.reduceLeDiff, ↓reduceIte, if_true, if_false, List.getElem?_cons_zero, List.getElem?_cons_succ, List.set_cons_zero, List.set_cons_succ, List.length_cons, List.length_nil, mz_s1, mz_s2, mz_cl, true_and, and_true, false_and, and_false, List.append_nil, mk_b0, mk_b1, mk_b2, mk_bn, Value.int.injEq, Option.toList_some, Option.toList_none, List.cons_append, List.nil_append, Classical.not_not, Option.some.injEq, reduceCtorEq, ne_eq, not_true_eq_false, not_false_eq_true, false_implies, true_implies, ev_51, ev_41, ev_79, ft_0_4, fn_0_4, ft_0_0, fn_0_0, ev_37, ev_76, mz_rl d_Office_sort_12, mz_rl d_Office_sort_15, mz_rl d_Office_sort_25, mz_rl d_Office_sort_26, mz_rl d_Office_sort_29, mz_rl d_Office_sort_30, mz_rl d_Office_sort_33, mz_rl d_Office_sort_34, mz_rl d_Office_sort_35, mz_rl d_Office_sort_36, j_Office_sort_12, nF_0, eq_true hy, ho, hq, vp_in_nI hi (show 8 < 2 ^ 31 by decide), nI_clamp (show i < 2 ^ 31 by omega), deckQ_at hi, va_rf]
      refine mz_callV (by simp only [d_Office_sort_37, Nat.reduceAdd]) g_0_125 rfl (fun _ _ h => h) (c_Sorter_sortOn G mk_P n f k5 e1 e2 k6 k7 (by omega) (by omega) (by omega) (by omega) h7 e3 hjk hk) k5 rfl rfl (by decide) (Nat.le_of_ble_eq_true rfl) rfl ?_; rintro v_ n_ f_ ⟨N, gp', T', g', c', π, hN, rfl, rfl, rfl, hc', hc2, hc3⟩
      refine mz_go [] 20 ?_
      simp only [mz_r0, mk_lit, mk_fin, mk_cat, mk_fit, mk_nar, mk_cls, mk_ty, mk_isr, List.mem_cons, List.not_mem_nil, or_false, or_true, false_or, true_or, Nat.reduceEqDiff, Nat.reduceAdd, Nat.reduceSub, Nat.reduceLT, Nat.reduceLeDiff, ↓reduceIte, if_true, if_false, List.getElem?_cons_zero, List.getElem?_cons_succ, List.set_cons_zero, List.set_cons_succ, List.length_cons, List.length_nil, mz_s1, mz_s2, mz_cl, true_and, and_true, false_and, and_false, List.append_nil, mk_b0, mk_b1, mk_b2, mk_bn, Value.int.injEq, Option.toList_some, Option.toList_none, List.cons_append, List.nil_append, Classical.not_not, Option.some.injEq, reduceCtorEq, ne_eq, not_true_eq_false, not_false_eq_true, false_implies, true_implies, ev_64, mz_rl d_Office_sort_40, nF_0]
      have hCI := CI_sH (ps := v5 + nI N) (gp := gp') (T := T') h1 h2 h3 h4 h5 h6 h7 hi hc'
      exact ⟨i, j, k, N, c', π, hi, rfl, hjk, hk, rfl, rfl, hN, rfl, rfl, hCI.1, hCI.2, MU_sH k5, hc2, hc3⟩
    · refine mz_go [15] 20 ?_
      simp only [mz_r0, mk_lit, mk_fin, mk_cat, mk_fit, mk_nar, mk_cls, mk_ty, mk_isr, List.mem_cons, List.not_mem_nil, or_false, or_true, false_or, true_or, Nat.reduceEqDiff, Nat.reduceAdd, Nat.reduceSub, Nat.reduceLT, Nat.reduceLeDiff, ↓reduceIte, if_true, if_false, List.getElem?_cons_zero, List.getElem?_cons_succ, List.set_cons_zero, List.set_cons_succ, List.length_cons, List.length_nil, mz_s1, mz_s2, mz_cl, true_and, and_true, false_and, and_false, List.append_nil, mk_b0, mk_b1, mk_b2, mk_bn, Value.int.injEq, Option.toList_some, Option.toList_none, List.cons_append, List.nil_append, Classical.not_not, Option.some.injEq, reduceCtorEq, ne_eq, not_true_eq_false, not_false_eq_true, false_implies, true_implies, ev_51, ev_41, ev_79, ft_0_4, fn_0_4, ft_0_0, fn_0_0, ev_37, ev_76, mz_rl d_Office_sort_12, mz_rl d_Office_sort_25, mz_rl d_Office_sort_26, mz_rl d_Office_sort_29, mz_rl d_Office_sort_30, mz_rl d_Office_sort_33, mz_rl d_Office_sort_34, mz_rl d_Office_sort_35, mz_rl d_Office_sort_36, mz_rl d_Office_sort_37, j_Office_sort_12, nF_0, eq_false hy]
      exact mz_throw hfl (by decide) (by simp only [d_Office_sort]) (by simp only [d_Office_sort, Nat.reduceAdd]) (by simp only [d_Office_sort, Nat.reduceAdd]) (by simp only [d_Office_sort, Nat.reduceAdd]) (by simp only [d_Office_sort, Nat.reduceAdd]) th_s_123 th_w_113 (by decide +kernel) th_fits (by decide) (by decide) (by decide) (by decide) ⟨rfl, rfl, rfl, fun q => hy q.2⟩
  · refine mz_go [15] 20 ?_
    simp only [mz_r0, mk_lit, mk_fin, mk_cat, mk_fit, mk_nar, mk_cls, mk_ty, mk_isr, List.mem_cons, List.not_mem_nil, or_false, or_true, false_or, true_or, Nat.reduceEqDiff, Nat.reduceAdd, Nat.reduceSub, Nat.reduceLT, Nat.reduceLeDiff, ↓reduceIte, if_true, if_false, List.getElem?_cons_zero, List.getElem?_cons_succ, List.set_cons_zero, List.set_cons_succ, List.length_cons, List.length_nil, mz_s1, mz_s2, mz_cl, true_and, and_true, false_and, and_false, List.append_nil, mk_b0, mk_b1, mk_b2, mk_bn, Value.int.injEq, Option.toList_some, Option.toList_none, List.cons_append, List.nil_append, Classical.not_not, Option.some.injEq, reduceCtorEq, ne_eq, not_true_eq_false, not_false_eq_true, false_implies, true_implies, ev_49, ev_37, mz_rl d_Office_sort_4, mz_rl d_Office_sort_7, mz_rl d_Office_sort_8, mz_rl d_Office_sort_9, j_Office_sort_4, nF_0, eq_false hx]
    exact mz_throw hfl (by decide) (by simp only [d_Office_sort]) (by simp only [d_Office_sort, Nat.reduceAdd]) (by simp only [d_Office_sort, Nat.reduceAdd]) (by simp only [d_Office_sort, Nat.reduceAdd]) (by simp only [d_Office_sort, Nat.reduceAdd]) th_s_123 th_w_113 (by decide +kernel) th_fits (by decide) (by decide) (by decide) (by decide) ⟨rfl, rfl, rfl, fun q => hx q.1⟩
set_option maxRecDepth 20000 in
theorem x_Office_merge (G : mz_G) (hfl : G.1.flags = pinnedFlags ++ [noTraceFlag]) (n : Nat) (f : mz_H) {x y z w : Int32} {K : Nat} {sz : Nat → Nat} {cd s : Nat → Nat → Nat} (h : CI f n K sz cd s) :
    mz_X G mk_P 0 false b_Office_merge 5 (some .int) (r_Office_merge 1 6) (mgP f n K sz cd s x y z w) (fun ec n' f' => ((ec = "java/lang/IllegalArgumentException" ∧ ¬ okMg x y z w) ∨ (ec = "java/lang/IllegalStateException" ∧ okMg x y z w ∧ ¬ srM s cd sz x y z w)) ∧ n' = n ∧ f' = f) 0 [some (.ref 0), some (.int x), some (.int y), some (.int z), some (.int w)] [] 0 0 n f := by
  obtain ⟨lx, h1, h2, h3, h4, h5, h6, h7⟩ := id h
  have ho := h3.1
  have hq := h3.2.1
  have hb := h3.2.2.1
  have hs8 : s8 sz = K := h6.2
  obtain ⟨c1, c2, c3, c4, c5, c6, c7, c8, c9, c10, c11, c12, c13, c14, c15⟩ := id h3
  refine mz_go [2] 20 ?_
  simp only [mz_r0, mk_lit, mk_fin, mk_cat, mk_fit, mk_nar, mk_cls, mk_ty, mk_isr, List.mem_cons, List.not_mem_nil, or_false, or_true, false_or, true_or, Nat.reduceEqDiff, Nat.reduceAdd, Nat.reduceSub, Nat.reduceLT, Nat.reduceLeDiff, ↓reduceIte, if_true, if_false, List.getElem?_cons_zero, List.getElem?_cons_succ, List.set_cons_zero, List.set_cons_succ, List.length_cons, List.length_nil, mz_s1, mz_s2, mz_cl, true_and, and_true, false_and, and_false, List.append_nil, mk_b0, mk_b1, mk_b2, mk_bn, Value.int.injEq, Option.toList_some, Option.toList_none, List.cons_append, List.nil_append, Classical.not_not, Option.some.injEq, reduceCtorEq, ne_eq, not_true_eq_false, not_false_eq_true, false_implies, true_implies, ev_37, mz_rl d_Office_merge_0, mz_rl d_Office_merge_1, nF_0]
  refine mz_callS (by simp only [d_Office_merge_2, Nat.reduceAdd]) g_0_129 rfl (fun _ _ h => h) (c_Office_areTwoDecks G mk_P n f x y) (by decide) (Nat.le_of_ble_eq_true rfl) rfl ?_; intro v_ n_ f_ h_; obtain ⟨rfl, hn_, hf_⟩ := h_; replace hn_ := hn_.symm; replace hf_ := hf_.symm; subst hn_; subst hf_
  by_cases hx : (0 ≤ x.toInt ∧ x.toInt < 8) ∧ (0 ≤ y.toInt ∧ y.toInt < 8) ∧ x.toInt ≠ y.toInt
  · refine mz_go [11] 20 ?_
    simp only [mz_r0, mk_lit, mk_fin, mk_cat, mk_fit, mk_nar, mk_cls, mk_ty, mk_isr, List.mem_cons, List.not_mem_nil, or_false, or_true, false_or, true_or, Nat.reduceEqDiff, Nat.reduceAdd, Nat.reduceSub, Nat.reduceLT, Nat.reduceLeDiff, ↓reduceIte, if_true, if_false, List.getElem?_cons_zero, List.getElem?_cons_succ, List.set_cons_zero, List.set_cons_succ, List.length_cons, List.length_nil, mz_s1, mz_s2, mz_cl, true_and, and_true, false_and, and_false, List.append_nil, mk_b0, mk_b1, mk_b2, mk_bn, Value.int.injEq, Option.toList_some, Option.toList_none, List.cons_append, List.nil_append, Classical.not_not, Option.some.injEq, reduceCtorEq, ne_eq, not_true_eq_false, not_false_eq_true, false_implies, true_implies, ev_49, ev_37, ev_36, mz_rl d_Office_merge_5, mz_rl d_Office_merge_8, mz_rl d_Office_merge_9, mz_rl d_Office_merge_17, j_Office_merge_5, nF_0, eq_true hx]
    refine mz_callS (by simp only [d_Office_merge_11, Nat.reduceAdd]) g_0_120 rfl (fun _ _ h => h) (c_Office_isField G mk_P n f z w) (by decide) (Nat.le_of_ble_eq_true rfl) rfl ?_; intro v_ n_ f_ h_; obtain ⟨rfl, hn_, hf_⟩ := h_; replace hn_ := hn_.symm; replace hf_ := hf_.symm; subst hn_; subst hf_
    by_cases hy : 0 ≤ z.toInt ∧ z.toInt ≤ w.toInt ∧ w.toInt < 16
    · obtain ⟨i, hi, rfl⟩ := mk_nat (x := x) (N := 8) hx.1.1 hx.1.2 (by decide)
      obtain ⟨j, hj, rfl⟩ := mk_nat (x := y) (N := 8) hx.2.1.1 hx.2.1.2 (by decide)
      have hij : i ≠ j := by rintro rfl; exact hx.2.2 rfl
      obtain ⟨p, hp, rfl⟩ := mk_nat (x := z) (N := 16) hy.1 (by omega) (by decide)
      obtain ⟨k, hk, rfl⟩ := mk_nat (x := w) (N := 16) (by omega) hy.2.2 (by decide)
      have hpk : p ≤ k := by have := hy.2.1; rw [mk_nti (show p < 2 ^ 31 by omega), mk_nti (show k < 2 ^ 31 by omega)] at this; omega
      obtain ⟨g, e1, e2, e3⟩ := h6.1 i hi
      obtain ⟨go, o1, o2, o3⟩ := h6.1 j hj
      obtain ⟨c9', g9, p9, p10, -⟩ := id c10
      obtain ⟨br, k8⟩ := c9
      have hsi := s8_le2 sz hi hj hij
      refine mz_go [36] 20 ?_
      simp only [mz_r0, mk_lit, mk_fin, mk_cat, mk_fit, mk_nar, mk_cls, mk_ty, mk_isr, List.mem_cons, List.not_mem_nil, or_false, or_true, false_or, true_or, Nat.reduceEqDiff, Nat.reduceAdd, Nat.reduceSub, Nat.reduceLT, Nat.reduceLeDiff, ↓reduceIte, if_true, if_false, List.getElem?_cons_zero, List.getElem?_cons_succ, List.set_cons_zero, List.set_cons_succ, List.length_cons, List.length_nil, mz_s1, mz_s2, mz_cl, true_and, and_true, false_and, and_false, List.append_nil, mk_b0, mk_b1, mk_b2, mk_bn, Value.int.injEq, Option.toList_some, Option.toList_none, List.cons_append, List.nil_append, Classical.not_not, Option.some.injEq, reduceCtorEq, ne_eq, not_true_eq_false, not_false_eq_true, false_implies, true_implies, ev_51, ev_41, ev_79, ft_0_0, fn_0_0, ev_37, ev_76, ev_36, mz_rl d_Office_merge_14, mz_rl d_Office_merge_17, mz_rl d_Office_merge_27, mz_rl d_Office_merge_28, mz_rl d_Office_merge_31, mz_rl d_Office_merge_32, mz_rl d_Office_merge_33, mz_rl d_Office_merge_34, j_Office_merge_14, nF_0, eq_true hy, ho, hq, vp_in_nI hi (show 8 < 2 ^ 31 by decide), nI_clamp (show i < 2 ^ 31 by omega), deckQ_at hi, va_rf]
      refine mz_callV (by simp only [d_Office_merge_36, Nat.reduceAdd]) g_0_134 rfl (fun _ _ h => h) (c_Deck_isSorted G mk_P n f e1 e2 (by omega) h7 e3 hpk hk) e1 rfl rfl (by decide) (Nat.le_of_ble_eq_true rfl) rfl ?_; intro v_ n_ f_ h_; obtain ⟨rfl, hn_, hf_⟩ := h_; replace hn_ := hn_.symm; replace hf_ := hf_.symm; subst hn_; subst hf_
      by_cases ha : srtB s p k (cd i) 1 (sz i - 1) = true
      · refine mz_go [51] 20 ?_
        simp only [mz_r0, mk_lit, mk_fin, mk_cat, mk_fit, mk_nar, mk_cls, mk_ty, mk_isr, List.mem_cons, List.not_mem_nil, or_false, or_true, false_or, true_or, Nat.reduceEqDiff, Nat.reduceAdd, Nat.reduceSub, Nat.reduceLT, Nat.reduceLeDiff, ↓reduceIte, if_true, if_false, List.getElem?_cons_zero, List.getElem?_cons_succ, List.set_cons_zero, List.set_cons_succ, List.length_cons, List.length_nil, mz_s1, mz_s2, mz_cl, true_and, and_true, false_and, and_false, List.append_nil, mk_b0, mk_b1, mk_b2, mk_bn, Value.int.injEq, Option.toList_some, Option.toList_none, List.cons_append, List.nil_append, Classical.not_not, Option.some.injEq, reduceCtorEq, ne_eq, not_true_eq_false, not_false_eq_true, false_implies, true_implies, ev_49, ev_41, ev_79, ft_0_0, fn_0_0, ev_37, ev_76, ev_36, mz_rl d_Office_merge_39, mz_rl d_Office_merge_42, mz_rl d_Office_merge_43, mz_rl d_Office_merge_46, mz_rl d_Office_merge_47, mz_rl d_Office_merge_48, mz_rl d_Office_merge_49, mz_rl d_Office_merge_57, j_Office_merge_39, nF_0, eq_true ha, ho, hq, vp_in_nI hj (show 8 < 2 ^ 31 by decide), nI_clamp (show j < 2 ^ 31 by omega), deckQ_at hj, va_rf]
        refine mz_callV (by simp only [d_Office_merge_51, Nat.reduceAdd]) g_0_134 rfl (fun _ _ h => h) (c_Deck_isSorted G mk_P n f o1 o2 (by omega) h7 o3 hpk hk) o1 rfl rfl (by decide) (Nat.le_of_ble_eq_true rfl) rfl ?_; intro v_ n_ f_ h_; obtain ⟨rfl, hn_, hf_⟩ := h_; replace hn_ := hn_.symm; replace hf_ := hf_.symm; subst hn_; subst hf_
        by_cases hb : srtB s p k (cd j) 1 (sz j - 1) = true
        · refine mz_go [86] 40 ?_
          simp only [mz_r0, mk_lit, mk_fin, mk_cat, mk_fit, mk_nar, mk_cls, mk_ty, mk_isr, List.mem_cons, List.not_mem_nil, or_false, or_true, false_or, true_or, Nat.reduceEqDiff, Nat.reduceAdd, Nat.reduceSub, Nat.reduceLT, Nat.reduceLeDiff, ↓reduceIte, if_true, if_false, List.getElem?_cons_zero, List.getElem?_cons_succ, List.set_cons_zero, List.set_cons_succ, List.length_cons, List.length_nil, mz_s1, mz_s2, mz_cl, true_and, and_true, false_and, and_false, List.append_nil, mk_b0, mk_b1, mk_b2, mk_bn, Value.int.injEq, Option.toList_some, Option.toList_none, List.cons_append, List.nil_append, Classical.not_not, Option.some.injEq, reduceCtorEq, ne_eq, not_true_eq_false, not_false_eq_true, false_implies, true_implies, ev_51, ev_41, ev_79, ft_0_5, fn_0_5, ft_0_0, fn_0_0, ev_37, ev_76, ev_36, mz_rl d_Office_merge_54, mz_rl d_Office_merge_57, mz_rl d_Office_merge_67, mz_rl d_Office_merge_68, mz_rl d_Office_merge_71, mz_rl d_Office_merge_72, mz_rl d_Office_merge_75, mz_rl d_Office_merge_76, mz_rl d_Office_merge_77, mz_rl d_Office_merge_78, mz_rl d_Office_merge_81, mz_rl d_Office_merge_82, mz_rl d_Office_merge_83, mz_rl d_Office_merge_84, j_Office_merge_54, nF_0, eq_true hb, ho, hq, vp_in_nI hi (show 8 < 2 ^ 31 by decide), nI_clamp (show i < 2 ^ 31 by omega), deckQ_at hi, vp_in_nI hj (show 8 < 2 ^ 31 by decide), nI_clamp (show j < 2 ^ 31 by omega), deckQ_at hj, va_rf]
          refine mz_callV (by simp only [d_Office_merge_86, Nat.reduceAdd]) g_0_142 rfl (fun _ _ h => h) (c_Collator_mergeOn G mk_P n f k8 p9 p10 e1 e2 o1 o2 (by omega) h7 e3 o3 hpk hk ⟨by omega, by omega⟩ ⟨by omega, by omega⟩ ⟨by omega, by omega⟩ ⟨by omega, by omega⟩ (by omega) (by omega)) k8 rfl rfl (by decide) (Nat.le_of_ble_eq_true rfl) rfl ?_; rintro v_ n_ f_ ⟨gr, g10, rfl, rfl, hF, F8, F9, F10, Fd, Fa, Fo, hPs, hup⟩
          refine mz_go [] 20 ?_
          simp only [mz_r0, mk_lit, mk_fin, mk_cat, mk_fit, mk_nar, mk_cls, mk_ty, mk_isr, List.mem_cons, List.not_mem_nil, or_false, or_true, false_or, true_or, Nat.reduceEqDiff, Nat.reduceAdd, Nat.reduceSub, Nat.reduceLT, Nat.reduceLeDiff, ↓reduceIte, if_true, if_false, List.getElem?_cons_zero, List.getElem?_cons_succ, List.set_cons_zero, List.set_cons_succ, List.length_cons, List.length_nil, mz_s1, mz_s2, mz_cl, true_and, and_true, false_and, and_false, List.append_nil, mk_b0, mk_b1, mk_b2, mk_bn, Value.int.injEq, Option.toList_some, Option.toList_none, List.cons_append, List.nil_append, Classical.not_not, Option.some.injEq, reduceCtorEq, ne_eq, not_true_eq_false, not_false_eq_true, false_implies, true_implies, ev_64, mz_rl d_Office_merge_89, nF_0]
          refine ⟨i, j, p, k, hi, rfl, hj, rfl, hij, hpk, hk, rfl, rfl, ha, hb, rfl, rfl, ?_⟩
          have hF' : ∀ q, (q < 8 ∨ (10 < q ∧ q < 172) ∨ q = 1000000000001) → q ≠ 126 + 2 * i → q ≠ 127 + 2 * i → q ≠ 126 + 2 * j → f_ q = f q := fun q z1 z2 z3 z4 => hF q (by omega) (by simp; omega)
          refine CI_3 (MU_b (hF' 4 (by omega) (by omega) (by omega) (by omega)) (hF' 5 (by omega) (by omega) (by omega) (by omega)) k8 F8) ?_
          refine CI_mk h3 h4 h5 ?_ ?_ ?_ ?_ ?_ ⟨_, F8⟩ ⟨fun _ => 0, _, F9, F10, fun q hq => absurd hq (by omega)⟩ (Dk0_eq c11 (hF' _ (by omega) (by omega) (by omega) (by omega)) (hF' _ (by omega) (by omega) (by omega) (by omega))) ?_ ?_ (fun q hq => hF' q (by omega) (by omega) (by omega) (by omega)) (CD_two (r1 := sz i + sz j) (r2 := 0) h6 hi hj hij ⟨gr, Fd, Fa, hPs⟩ ⟨go, Fo, (hF' _ (by omega) (by omega) (by omega) (by omega)).trans o2, fun q hq => absurd hq (by omega)⟩ (fun q z1 z2 z3 z4 z5 z6 => hF' q (by omega) z3 z4 z5) rfl) (Cd_eq h7 h2 (fun q z _ => hup q z)) h2 h1
          all_goals (rw [hF' _ (by omega) (by omega) (by omega) (by omega)]; assumption)
        · refine mz_go [57] 20 ?_
          simp only [mz_r0, mk_lit, mk_fin, mk_cat, mk_fit, mk_nar, mk_cls, mk_ty, mk_isr, List.mem_cons, List.not_mem_nil, or_false, or_true, false_or, true_or, Nat.reduceEqDiff, Nat.reduceAdd, Nat.reduceSub, Nat.reduceLT, Nat.reduceLeDiff, ↓reduceIte, if_true, if_false, List.getElem?_cons_zero, List.getElem?_cons_succ, List.set_cons_zero, List.set_cons_succ, List.length_cons, List.length_nil, mz_s1, mz_s2, mz_cl, true_and, and_true, false_and, and_false, List.append_nil, mk_b0, mk_b1, mk_b2, mk_bn, Value.int.injEq, Option.toList_some, Option.toList_none, List.cons_append, List.nil_append, Classical.not_not, Option.some.injEq, reduceCtorEq, ne_eq, not_true_eq_false, not_false_eq_true, false_implies, true_implies, ev_51, ev_41, ev_79, ft_0_5, fn_0_5, ft_0_0, fn_0_0, ev_37, ev_76, ev_36, mz_rl d_Office_merge_54, mz_rl d_Office_merge_67, mz_rl d_Office_merge_68, mz_rl d_Office_merge_71, mz_rl d_Office_merge_72, mz_rl d_Office_merge_75, mz_rl d_Office_merge_76, mz_rl d_Office_merge_77, mz_rl d_Office_merge_78, mz_rl d_Office_merge_81, mz_rl d_Office_merge_82, mz_rl d_Office_merge_83, mz_rl d_Office_merge_84, mz_rl d_Office_merge_86, j_Office_merge_54, nF_0, eq_false hb]
          exact mz_throw hfl (by decide) (by simp only [d_Office_merge]) (by simp only [d_Office_merge, Nat.reduceAdd]) (by simp only [d_Office_merge, Nat.reduceAdd]) (by simp only [d_Office_merge, Nat.reduceAdd]) (by simp only [d_Office_merge, Nat.reduceAdd]) th_s_139 th_w_141 (by decide +kernel) th_fits (by decide) (by decide) (by decide) (by decide) ⟨Or.inr ⟨rfl, ⟨hx, hy⟩, fun q => hb ((srM_n hi hj hp hk).mp q).2⟩, rfl, rfl⟩
      · refine mz_go [57] 20 ?_
        simp only [mz_r0, mk_lit, mk_fin, mk_cat, mk_fit, mk_nar, mk_cls, mk_ty, mk_isr, List.mem_cons, List.not_mem_nil, or_false, or_true, false_or, true_or, Nat.reduceEqDiff, Nat.reduceAdd, Nat.reduceSub, Nat.reduceLT, Nat.reduceLeDiff, ↓reduceIte, if_true, if_false, List.getElem?_cons_zero, List.getElem?_cons_succ, List.set_cons_zero, List.set_cons_succ, List.length_cons, List.length_nil, mz_s1, mz_s2, mz_cl, true_and, and_true, false_and, and_false, List.append_nil, mk_b0, mk_b1, mk_b2, mk_bn, Value.int.injEq, Option.toList_some, Option.toList_none, List.cons_append, List.nil_append, Classical.not_not, Option.some.injEq, reduceCtorEq, ne_eq, not_true_eq_false, not_false_eq_true, false_implies, true_implies, ev_49, ev_41, ev_79, ft_0_0, fn_0_0, ev_37, ev_76, ev_36, mz_rl d_Office_merge_39, mz_rl d_Office_merge_42, mz_rl d_Office_merge_43, mz_rl d_Office_merge_46, mz_rl d_Office_merge_47, mz_rl d_Office_merge_48, mz_rl d_Office_merge_49, mz_rl d_Office_merge_51, j_Office_merge_39, nF_0, eq_false ha]
        exact mz_throw hfl (by decide) (by simp only [d_Office_merge]) (by simp only [d_Office_merge, Nat.reduceAdd]) (by simp only [d_Office_merge, Nat.reduceAdd]) (by simp only [d_Office_merge, Nat.reduceAdd]) (by simp only [d_Office_merge, Nat.reduceAdd]) th_s_139 th_w_141 (by decide +kernel) th_fits (by decide) (by decide) (by decide) (by decide) ⟨Or.inr ⟨rfl, ⟨hx, hy⟩, fun q => ha ((srM_n hi hj hp hk).mp q).1⟩, rfl, rfl⟩
    · refine mz_go [17] 20 ?_
      simp only [mz_r0, mk_lit, mk_fin, mk_cat, mk_fit, mk_nar, mk_cls, mk_ty, mk_isr, List.mem_cons, List.not_mem_nil, or_false, or_true, false_or, true_or, Nat.reduceEqDiff, Nat.reduceAdd, Nat.reduceSub, Nat.reduceLT, Nat.reduceLeDiff, ↓reduceIte, if_true, if_false, List.getElem?_cons_zero, List.getElem?_cons_succ, List.set_cons_zero, List.set_cons_succ, List.length_cons, List.length_nil, mz_s1, mz_s2, mz_cl, true_and, and_true, false_and, and_false, List.append_nil, mk_b0, mk_b1, mk_b2, mk_bn, Value.int.injEq, Option.toList_some, Option.toList_none, List.cons_append, List.nil_append, Classical.not_not, Option.some.injEq, reduceCtorEq, ne_eq, not_true_eq_false, not_false_eq_true, false_implies, true_implies, ev_51, ev_41, ev_79, ft_0_0, fn_0_0, ev_37, ev_76, ev_36, mz_rl d_Office_merge_14, mz_rl d_Office_merge_27, mz_rl d_Office_merge_28, mz_rl d_Office_merge_31, mz_rl d_Office_merge_32, mz_rl d_Office_merge_33, mz_rl d_Office_merge_34, mz_rl d_Office_merge_36, j_Office_merge_14, nF_0, eq_false hy]
      exact mz_throw hfl (by decide) (by simp only [d_Office_merge]) (by simp only [d_Office_merge, Nat.reduceAdd]) (by simp only [d_Office_merge, Nat.reduceAdd]) (by simp only [d_Office_merge, Nat.reduceAdd]) (by simp only [d_Office_merge, Nat.reduceAdd]) th_s_132 th_w_113 (by decide +kernel) th_fits (by decide) (by decide) (by decide) (by decide) ⟨Or.inl ⟨rfl, fun q => hy q.2⟩, rfl, rfl⟩
  · refine mz_go [17] 20 ?_
    simp only [mz_r0, mk_lit, mk_fin, mk_cat, mk_fit, mk_nar, mk_cls, mk_ty, mk_isr, List.mem_cons, List.not_mem_nil, or_false, or_true, false_or, true_or, Nat.reduceEqDiff, Nat.reduceAdd, Nat.reduceSub, Nat.reduceLT, Nat.reduceLeDiff, ↓reduceIte, if_true, if_false, List.getElem?_cons_zero, List.getElem?_cons_succ, List.set_cons_zero, List.set_cons_succ, List.length_cons, List.length_nil, mz_s1, mz_s2, mz_cl, true_and, and_true, false_and, and_false, List.append_nil, mk_b0, mk_b1, mk_b2, mk_bn, Value.int.injEq, Option.toList_some, Option.toList_none, List.cons_append, List.nil_append, Classical.not_not, Option.some.injEq, reduceCtorEq, ne_eq, not_true_eq_false, not_false_eq_true, false_implies, true_implies, ev_49, ev_37, ev_36, mz_rl d_Office_merge_5, mz_rl d_Office_merge_8, mz_rl d_Office_merge_9, mz_rl d_Office_merge_11, j_Office_merge_5, nF_0, eq_false hx]
    exact mz_throw hfl (by decide) (by simp only [d_Office_merge]) (by simp only [d_Office_merge, Nat.reduceAdd]) (by simp only [d_Office_merge, Nat.reduceAdd]) (by simp only [d_Office_merge, Nat.reduceAdd]) (by simp only [d_Office_merge, Nat.reduceAdd]) th_s_132 th_w_113 (by decide +kernel) th_fits (by decide) (by decide) (by decide) (by decide) ⟨Or.inl ⟨rfl, fun q => hx q.1⟩, rfl, rfl⟩
set_option maxRecDepth 20000 in
theorem x_Office_match (G : mz_G) (hfl : G.1.flags = pinnedFlags ++ [noTraceFlag]) (n : Nat) (f : mz_H) {x y u z w : Int32} {K : Nat} {sz : Nat → Nat} {cd s : Nat → Nat → Nat} (h : CI f n K sz cd s) :
    mz_X G mk_P 0 false b_Office_match 6 (some .int) (r_Office_match 1 6) (mtQ f n K sz cd s x y u z w) (fun ec n' f' => ((ec = "java/lang/IllegalArgumentException" ∧ ¬ okMt x y u z w) ∨ (ec = "java/lang/IllegalStateException" ∧ okMt x y u z w ∧ ¬ srM s cd sz x y z w)) ∧ n' = n ∧ f' = f) 0 [some (.ref 0), some (.int x), some (.int y), some (.int u), some (.int z), some (.int w)] [] 0 0 n f := by
  obtain ⟨lx, h1, h2, h3, h4, h5, h6, h7⟩ := id h
  have ho := h3.1
  have hq := h3.2.1
  have hb := h3.2.2.1
  have hs8 : s8 sz = K := h6.2
  obtain ⟨c1, c2, c3, c4, c5, c6, c7, c8, c9, c10, c11, c12, c13, c14, c15⟩ := id h3
  refine mz_go [2] 20 ?_
  simp only [mz_r0, mk_lit, mk_fin, mk_cat, mk_fit, mk_nar, mk_cls, mk_ty, mk_isr, List.mem_cons, List.not_mem_nil, or_false, or_true, false_or, true_or, Nat.reduceEqDiff, Nat.reduceAdd, Nat.reduceSub, Nat.reduceLT, Nat.reduceLeDiff, ↓reduceIte, if_true, if_false, List.getElem?_cons_zero, List.getElem?_cons_succ, List.set_cons_zero, List.set_cons_succ, List.length_cons, List.length_nil, mz_s1, mz_s2, mz_cl, true_and, and_true, false_and, and_false, List.append_nil, mk_b0, mk_b1, mk_b2, mk_bn, Value.int.injEq, Option.toList_some, Option.toList_none, List.cons_append, List.nil_append, Classical.not_not, Option.some.injEq, reduceCtorEq, ne_eq, not_true_eq_false, not_false_eq_true, false_implies, true_implies, ev_37, mz_rl d_Office_match_0, mz_rl d_Office_match_1, nF_0]
  refine mz_callS (by simp only [d_Office_match_2, Nat.reduceAdd]) g_0_129 rfl (fun _ _ h => h) (c_Office_areTwoDecks G mk_P n f x y) (by decide) (Nat.le_of_ble_eq_true rfl) rfl ?_; intro v_ n_ f_ h_; obtain ⟨rfl, hn_, hf_⟩ := h_; replace hn_ := hn_.symm; replace hf_ := hf_.symm; subst hn_; subst hf_
  by_cases hx : (0 ≤ x.toInt ∧ x.toInt < 8) ∧ (0 ≤ y.toInt ∧ y.toInt < 8) ∧ x.toInt ≠ y.toInt
  · refine mz_go [10] 20 ?_
    simp only [mz_r0, mk_lit, mk_fin, mk_cat, mk_fit, mk_nar, mk_cls, mk_ty, mk_isr, List.mem_cons, List.not_mem_nil, or_false, or_true, false_or, true_or, Nat.reduceEqDiff, Nat.reduceAdd, Nat.reduceSub, Nat.reduceLT, Nat.reduceLeDiff, ↓reduceIte, if_true, if_false, List.getElem?_cons_zero, List.getElem?_cons_succ, List.set_cons_zero, List.set_cons_succ, List.length_cons, List.length_nil, mz_s1, mz_s2, mz_cl, true_and, and_true, false_and, and_false, List.append_nil, mk_b0, mk_b1, mk_b2, mk_bn, Value.int.injEq, Option.toList_some, Option.toList_none, List.cons_append, List.nil_append, Classical.not_not, Option.some.injEq, reduceCtorEq, ne_eq, not_true_eq_false, not_false_eq_true, false_implies, true_implies, ev_49, ev_37, mz_rl d_Office_match_5, mz_rl d_Office_match_8, mz_rl d_Office_match_9, mz_rl d_Office_match_34, j_Office_match_5, nF_0, eq_true hx]
    refine mz_callS (by simp only [d_Office_match_10, Nat.reduceAdd]) g_0_129 rfl (fun _ _ h => h) (c_Office_areTwoDecks G mk_P n f x u) (by decide) (Nat.le_of_ble_eq_true rfl) rfl ?_; intro v_ n_ f_ h_; obtain ⟨rfl, hn_, hf_⟩ := h_; replace hn_ := hn_.symm; replace hf_ := hf_.symm; subst hn_; subst hf_
    by_cases hx2 : (0 ≤ x.toInt ∧ x.toInt < 8) ∧ (0 ≤ u.toInt ∧ u.toInt < 8) ∧ x.toInt ≠ u.toInt
    · refine mz_go [18] 20 ?_
      simp only [mz_r0, mk_lit, mk_fin, mk_cat, mk_fit, mk_nar, mk_cls, mk_ty, mk_isr, List.mem_cons, List.not_mem_nil, or_false, or_true, false_or, true_or, Nat.reduceEqDiff, Nat.reduceAdd, Nat.reduceSub, Nat.reduceLT, Nat.reduceLeDiff, ↓reduceIte, if_true, if_false, List.getElem?_cons_zero, List.getElem?_cons_succ, List.set_cons_zero, List.set_cons_succ, List.length_cons, List.length_nil, mz_s1, mz_s2, mz_cl, true_and, and_true, false_and, and_false, List.append_nil, mk_b0, mk_b1, mk_b2, mk_bn, Value.int.injEq, Option.toList_some, Option.toList_none, List.cons_append, List.nil_append, Classical.not_not, Option.some.injEq, reduceCtorEq, ne_eq, not_true_eq_false, not_false_eq_true, false_implies, true_implies, ev_49, ev_37, mz_rl d_Office_match_13, mz_rl d_Office_match_16, mz_rl d_Office_match_17, mz_rl d_Office_match_34, j_Office_match_13, nF_0, eq_true hx2]
      refine mz_callS (by simp only [d_Office_match_18, Nat.reduceAdd]) g_0_129 rfl (fun _ _ h => h) (c_Office_areTwoDecks G mk_P n f y u) (by decide) (Nat.le_of_ble_eq_true rfl) rfl ?_; intro v_ n_ f_ h_; obtain ⟨rfl, hn_, hf_⟩ := h_; replace hn_ := hn_.symm; replace hf_ := hf_.symm; subst hn_; subst hf_
      by_cases hx3 : (0 ≤ y.toInt ∧ y.toInt < 8) ∧ (0 ≤ u.toInt ∧ u.toInt < 8) ∧ y.toInt ≠ u.toInt
      · refine mz_go [28] 20 ?_
        simp only [mz_r0, mk_lit, mk_fin, mk_cat, mk_fit, mk_nar, mk_cls, mk_ty, mk_isr, List.mem_cons, List.not_mem_nil, or_false, or_true, false_or, true_or, Nat.reduceEqDiff, Nat.reduceAdd, Nat.reduceSub, Nat.reduceLT, Nat.reduceLeDiff, ↓reduceIte, if_true, if_false, List.getElem?_cons_zero, List.getElem?_cons_succ, List.set_cons_zero, List.set_cons_succ, List.length_cons, List.length_nil, mz_s1, mz_s2, mz_cl, true_and, and_true, false_and, and_false, List.append_nil, mk_b0, mk_b1, mk_b2, mk_bn, Value.int.injEq, Option.toList_some, Option.toList_none, List.cons_append, List.nil_append, Classical.not_not, Option.some.injEq, reduceCtorEq, ne_eq, not_true_eq_false, not_false_eq_true, false_implies, true_implies, ev_49, ev_36, mz_rl d_Office_match_21, mz_rl d_Office_match_24, mz_rl d_Office_match_26, mz_rl d_Office_match_34, j_Office_match_21, nF_0, eq_true hx3]
        refine mz_callS (by simp only [d_Office_match_28, Nat.reduceAdd]) g_0_120 rfl (fun _ _ h => h) (c_Office_isField G mk_P n f z w) (by decide) (Nat.le_of_ble_eq_true rfl) rfl ?_; intro v_ n_ f_ h_; obtain ⟨rfl, hn_, hf_⟩ := h_; replace hn_ := hn_.symm; replace hf_ := hf_.symm; subst hn_; subst hf_
        by_cases hy : 0 ≤ z.toInt ∧ z.toInt ≤ w.toInt ∧ w.toInt < 16
        · obtain ⟨i, hi, rfl⟩ := mk_nat (x := x) (N := 8) hx.1.1 hx.1.2 (by decide)
          obtain ⟨j, hj, rfl⟩ := mk_nat (x := y) (N := 8) hx.2.1.1 hx.2.1.2 (by decide)
          obtain ⟨l, hl, rfl⟩ := mk_nat (x := u) (N := 8) hx2.2.1.1 hx2.2.1.2 (by decide)
          have hij : i ≠ j := by rintro rfl; exact hx.2.2 rfl
          have hil : i ≠ l := by rintro rfl; exact hx2.2.2 rfl
          have hjl : j ≠ l := by rintro rfl; exact hx3.2.2 rfl
          obtain ⟨p, hp, rfl⟩ := mk_nat (x := z) (N := 16) hy.1 (by omega) (by decide)
          obtain ⟨k, hk, rfl⟩ := mk_nat (x := w) (N := 16) (by omega) hy.2.2 (by decide)
          have hpk : p ≤ k := by have := hy.2.1; rw [mk_nti (show p < 2 ^ 31 by omega), mk_nti (show k < 2 ^ 31 by omega)] at this; omega
          obtain ⟨g, e1, e2, e3⟩ := id (h6.1 i hi)
          obtain ⟨go, o1, o2, o3⟩ := id (h6.1 j hj)
          obtain ⟨d1, c10⟩ := c10
          obtain ⟨d2, c11⟩ := c11
          obtain ⟨br, k8⟩ := c9
          have hsi := s8_le3 sz hi hj hl hij hil hjl
          refine mz_go [54] 20 ?_
          simp only [mz_r0, mk_lit, mk_fin, mk_cat, mk_fit, mk_nar, mk_cls, mk_ty, mk_isr, List.mem_cons, List.not_mem_nil, or_false, or_true, false_or, true_or, Nat.reduceEqDiff, Nat.reduceAdd, Nat.reduceSub, Nat.reduceLT, Nat.reduceLeDiff, ↓reduceIte, if_true, if_false, List.getElem?_cons_zero, List.getElem?_cons_succ, List.set_cons_zero, List.set_cons_succ, List.length_cons, List.length_nil, mz_s1, mz_s2, mz_cl, true_and, and_true, false_and, and_false, List.append_nil, mk_b0, mk_b1, mk_b2, mk_bn, Value.int.injEq, Option.toList_some, Option.toList_none, List.cons_append, List.nil_append, Classical.not_not, Option.some.injEq, reduceCtorEq, ne_eq, not_true_eq_false, not_false_eq_true, false_implies, true_implies, ev_51, ev_41, ev_79, ft_0_0, fn_0_0, ev_37, ev_76, ev_36, mz_rl d_Office_match_31, mz_rl d_Office_match_34, mz_rl d_Office_match_44, mz_rl d_Office_match_45, mz_rl d_Office_match_48, mz_rl d_Office_match_49, mz_rl d_Office_match_50, mz_rl d_Office_match_52, j_Office_match_31, nF_0, eq_true hy, ho, hq, vp_in_nI hi (show 8 < 2 ^ 31 by decide), nI_clamp (show i < 2 ^ 31 by omega), deckQ_at hi, va_rf]
          refine mz_callV (by simp only [d_Office_match_54, Nat.reduceAdd]) g_0_134 rfl (fun _ _ h => h) (c_Deck_isSorted G mk_P n f e1 e2 (by omega) h7 e3 hpk hk) e1 rfl rfl (by decide) (Nat.le_of_ble_eq_true rfl) rfl ?_; intro v_ n_ f_ h_; obtain ⟨rfl, hn_, hf_⟩ := h_; replace hn_ := hn_.symm; replace hf_ := hf_.symm; subst hn_; subst hf_
          by_cases ha : srtB s p k (cd i) 1 (sz i - 1) = true
          · refine mz_go [70] 20 ?_
            simp only [mz_r0, mk_lit, mk_fin, mk_cat, mk_fit, mk_nar, mk_cls, mk_ty, mk_isr, List.mem_cons, List.not_mem_nil, or_false, or_true, false_or, true_or, Nat.reduceEqDiff, Nat.reduceAdd, Nat.reduceSub, Nat.reduceLT, Nat.reduceLeDiff, ↓reduceIte, if_true, if_false, List.getElem?_cons_zero, List.getElem?_cons_succ, List.set_cons_zero, List.set_cons_succ, List.length_cons, List.length_nil, mz_s1, mz_s2, mz_cl, true_and, and_true, false_and, and_false, List.append_nil, mk_b0, mk_b1, mk_b2, mk_bn, Value.int.injEq, Option.toList_some, Option.toList_none, List.cons_append, List.nil_append, Classical.not_not, Option.some.injEq, reduceCtorEq, ne_eq, not_true_eq_false, not_false_eq_true, false_implies, true_implies, ev_49, ev_41, ev_79, ft_0_0, fn_0_0, ev_37, ev_76, ev_36, mz_rl d_Office_match_57, mz_rl d_Office_match_60, mz_rl d_Office_match_61, mz_rl d_Office_match_64, mz_rl d_Office_match_65, mz_rl d_Office_match_66, mz_rl d_Office_match_68, mz_rl d_Office_match_76, j_Office_match_57, nF_0, eq_true ha, ho, hq, vp_in_nI hj (show 8 < 2 ^ 31 by decide), nI_clamp (show j < 2 ^ 31 by omega), deckQ_at hj, va_rf]
            refine mz_callV (by simp only [d_Office_match_70, Nat.reduceAdd]) g_0_134 rfl (fun _ _ h => h) (c_Deck_isSorted G mk_P n f o1 o2 (by omega) h7 o3 hpk hk) o1 rfl rfl (by decide) (Nat.le_of_ble_eq_true rfl) rfl ?_; intro v_ n_ f_ h_; obtain ⟨rfl, hn_, hf_⟩ := h_; replace hn_ := hn_.symm; replace hf_ := hf_.symm; subst hn_; subst hf_
            by_cases hb : srtB s p k (cd j) 1 (sz j - 1) = true
            · refine mz_go [112] 40 ?_
              simp only [mz_r0, mk_lit, mk_fin, mk_cat, mk_fit, mk_nar, mk_cls, mk_ty, mk_isr, List.mem_cons, List.not_mem_nil, or_false, or_true, false_or, true_or, Nat.reduceEqDiff, Nat.reduceAdd, Nat.reduceSub, Nat.reduceLT, Nat.reduceLeDiff, ↓reduceIte, if_true, if_false, List.getElem?_cons_zero, List.getElem?_cons_succ, List.set_cons_zero, List.set_cons_succ, List.length_cons, List.length_nil, mz_s1, mz_s2, mz_cl, true_and, and_true, false_and, and_false, List.append_nil, mk_b0, mk_b1, mk_b2, mk_bn, Value.int.injEq, Option.toList_some, Option.toList_none, List.cons_append, List.nil_append, Classical.not_not, Option.some.injEq, reduceCtorEq, ne_eq, not_true_eq_false, not_false_eq_true, false_implies, true_implies, ev_51, ev_41, ev_79, ft_0_5, fn_0_5, ft_0_0, fn_0_0, ev_37, ev_76, ev_36, mz_rl d_Office_match_73, mz_rl d_Office_match_76, mz_rl d_Office_match_86, mz_rl d_Office_match_87, mz_rl d_Office_match_90, mz_rl d_Office_match_91, mz_rl d_Office_match_94, mz_rl d_Office_match_95, mz_rl d_Office_match_96, mz_rl d_Office_match_97, mz_rl d_Office_match_100, mz_rl d_Office_match_101, mz_rl d_Office_match_102, mz_rl d_Office_match_103, mz_rl d_Office_match_106, mz_rl d_Office_match_107, mz_rl d_Office_match_108, mz_rl d_Office_match_110, j_Office_match_73, nF_0, eq_true hb, ho, hq, vp_in_nI hi (show 8 < 2 ^ 31 by decide), nI_clamp (show i < 2 ^ 31 by omega), deckQ_at hi, vp_in_nI hj (show 8 < 2 ^ 31 by decide), nI_clamp (show j < 2 ^ 31 by omega), deckQ_at hj, vp_in_nI hl (show 8 < 2 ^ 31 by decide), nI_clamp (show l < 2 ^ 31 by omega), deckQ_at hl, va_rf]
              refine mz_callV (by simp only [d_Office_match_112, Nat.reduceAdd]) g_0_148 rfl (fun _ _ h => h) (c_Collator_matchOn G mk_P n f k8 c10 c11 (h6.1 i hi) (h6.1 j hj) (h6.1 l hl) (by omega) h7 hpk hk ⟨by omega, by omega⟩ ⟨by omega, by omega⟩ ⟨by omega, by omega⟩ ⟨by omega, by omega⟩ ⟨by omega, by omega⟩ ⟨by omega, by omega⟩ ⟨by omega, by omega⟩ ⟨by omega, by omega⟩ ⟨by omega, by omega⟩ ⟨by omega, by omega⟩ (by omega) ⟨by omega, by omega, by omega⟩ ⟨by omega, by omega⟩ (by omega)) k8 rfl rfl (by decide) (Nat.le_of_ble_eq_true rfl) rfl ?_; rintro v_ n_ f_ ⟨rfl, rfl, hr, hF, F8, D9, D11, De, Dd, Do⟩
              refine mz_go [] 20 ?_
              simp only [mz_r0, mk_lit, mk_fin, mk_cat, mk_fit, mk_nar, mk_cls, mk_ty, mk_isr, List.mem_cons, List.not_mem_nil, or_false, or_true, false_or, true_or, Nat.reduceEqDiff, Nat.reduceAdd, Nat.reduceSub, Nat.reduceLT, Nat.reduceLeDiff, ↓reduceIte, if_true, if_false, List.getElem?_cons_zero, List.getElem?_cons_succ, List.set_cons_zero, List.set_cons_succ, List.length_cons, List.length_nil, mz_s1, mz_s2, mz_cl, true_and, and_true, false_and, and_false, List.append_nil, mk_b0, mk_b1, mk_b2, mk_bn, Value.int.injEq, Option.toList_some, Option.toList_none, List.cons_append, List.nil_append, Classical.not_not, Option.some.injEq, reduceCtorEq, ne_eq, not_true_eq_false, not_false_eq_true, false_implies, true_implies, ev_64, mz_rl d_Office_match_115, nF_0]
              refine ⟨i, j, l, p, k, d1, d2, _, hi, rfl, hj, rfl, hl, rfl, hij, hil, hjl, hpk, hk, rfl, rfl, ha, hb, rfl, rfl, rfl, ?_⟩
              have hF' : ∀ q, (q < 8 ∨ (12 < q ∧ q < 126) ∨ 141 < q) → f_ q = f q := fun q hq => hF q (by omega) (by omega) (by omega) (by omega) (by omega) (by omega) (by omega) (by omega) (by omega) (by omega) (by omega)
              refine CI_3 (MU_b (hF' 4 (by omega)) (hF' 5 (by omega)) k8 F8) ?_
              refine CI_mk h3 h4 h5 ?_ ?_ ?_ ?_ ?_ ⟨_, F8⟩ D9 D11 ?_ ?_ (fun q hq => hF' q (by omega)) (CD_three h6 hi hj hl hij hil hjl Dd Do De (fun q z1 z2 z3 z4 z5 z6 z7 z8 => hF q (by omega) (by omega) (by omega) (by omega) (by omega) z7 z8 z3 z4 z5 z6) (by omega)) (Cd_eq h7 h2 (fun q _ _ => hF' q (by omega))) h2 h1
              all_goals (rw [hF' _ (by omega)]; assumption)
            · refine mz_go [76] 20 ?_
              simp only [mz_r0, mk_lit, mk_fin, mk_cat, mk_fit, mk_nar, mk_cls, mk_ty, mk_isr, List.mem_cons, List.not_mem_nil, or_false, or_true, false_or, true_or, Nat.reduceEqDiff, Nat.reduceAdd, Nat.reduceSub, Nat.reduceLT, Nat.reduceLeDiff, ↓reduceIte, if_true, if_false, List.getElem?_cons_zero, List.getElem?_cons_succ, List.set_cons_zero, List.set_cons_succ, List.length_cons, List.length_nil, mz_s1, mz_s2, mz_cl, true_and, and_true, false_and, and_false, List.append_nil, mk_b0, mk_b1, mk_b2, mk_bn, Value.int.injEq, Option.toList_some, Option.toList_none, List.cons_append, List.nil_append, Classical.not_not, Option.some.injEq, reduceCtorEq, ne_eq, not_true_eq_false, not_false_eq_true, false_implies, true_implies, ev_51, ev_41, ev_79, ft_0_5, fn_0_5, ft_0_0, fn_0_0, ev_37, ev_76, ev_36, mz_rl d_Office_match_73, mz_rl d_Office_match_86, mz_rl d_Office_match_87, mz_rl d_Office_match_90, mz_rl d_Office_match_91, mz_rl d_Office_match_94, mz_rl d_Office_match_95, mz_rl d_Office_match_96, mz_rl d_Office_match_97, mz_rl d_Office_match_100, mz_rl d_Office_match_101, mz_rl d_Office_match_102, mz_rl d_Office_match_103, mz_rl d_Office_match_106, mz_rl d_Office_match_107, mz_rl d_Office_match_108, mz_rl d_Office_match_110, mz_rl d_Office_match_112, j_Office_match_73, nF_0, eq_false hb]
              exact mz_throw hfl (by decide) (by simp only [d_Office_match]) (by simp only [d_Office_match, Nat.reduceAdd]) (by simp only [d_Office_match, Nat.reduceAdd]) (by simp only [d_Office_match, Nat.reduceAdd]) (by simp only [d_Office_match, Nat.reduceAdd]) th_s_139 th_w_141 (by decide +kernel) th_fits (by decide) (by decide) (by decide) (by decide) ⟨Or.inr ⟨rfl, ⟨hx, hx2, hx3, hy⟩, fun q => hb ((srM_n hi hj hp hk).mp q).2⟩, rfl, rfl⟩
          · refine mz_go [76] 20 ?_
            simp only [mz_r0, mk_lit, mk_fin, mk_cat, mk_fit, mk_nar, mk_cls, mk_ty, mk_isr, List.mem_cons, List.not_mem_nil, or_false, or_true, false_or, true_or, Nat.reduceEqDiff, Nat.reduceAdd, Nat.reduceSub, Nat.reduceLT, Nat.reduceLeDiff, ↓reduceIte, if_true, if_false, List.getElem?_cons_zero, List.getElem?_cons_succ, List.set_cons_zero, List.set_cons_succ, List.length_cons, List.length_nil, mz_s1, mz_s2, mz_cl, true_and, and_true, false_and, and_false, List.append_nil, mk_b0, mk_b1, mk_b2, mk_bn, Value.int.injEq, Option.toList_some, Option.toList_none, List.cons_append, List.nil_append, Classical.not_not, Option.some.injEq, reduceCtorEq, ne_eq, not_true_eq_false, not_false_eq_true, false_implies, true_implies, ev_49, ev_41, ev_79, ft_0_0, fn_0_0, ev_37, ev_76, ev_36, mz_rl d_Office_match_57, mz_rl d_Office_match_60, mz_rl d_Office_match_61, mz_rl d_Office_match_64, mz_rl d_Office_match_65, mz_rl d_Office_match_66, mz_rl d_Office_match_68, mz_rl d_Office_match_70, j_Office_match_57, nF_0, eq_false ha]
            exact mz_throw hfl (by decide) (by simp only [d_Office_match]) (by simp only [d_Office_match, Nat.reduceAdd]) (by simp only [d_Office_match, Nat.reduceAdd]) (by simp only [d_Office_match, Nat.reduceAdd]) (by simp only [d_Office_match, Nat.reduceAdd]) th_s_139 th_w_141 (by decide +kernel) th_fits (by decide) (by decide) (by decide) (by decide) ⟨Or.inr ⟨rfl, ⟨hx, hx2, hx3, hy⟩, fun q => ha ((srM_n hi hj hp hk).mp q).1⟩, rfl, rfl⟩
        · refine mz_go [34] 20 ?_
          simp only [mz_r0, mk_lit, mk_fin, mk_cat, mk_fit, mk_nar, mk_cls, mk_ty, mk_isr, List.mem_cons, List.not_mem_nil, or_false, or_true, false_or, true_or, Nat.reduceEqDiff, Nat.reduceAdd, Nat.reduceSub, Nat.reduceLT, Nat.reduceLeDiff, ↓reduceIte, if_true, if_false, List.getElem?_cons_zero, List.getElem?_cons_succ, List.set_cons_zero, List.set_cons_succ, List.length_cons, List.length_nil, mz_s1, mz_s2, mz_cl, true_and, and_true, false_and, and_false, List.append_nil, mk_b0, mk_b1, mk_b2, mk_bn, Value.int.injEq, Option.toList_some, Option.toList_none, List.cons_append, List.nil_append, Classical.not_not, Option.some.injEq, reduceCtorEq, ne_eq, not_true_eq_false, not_false_eq_true, false_implies, true_implies, ev_51, ev_41, ev_79, ft_0_0, fn_0_0, ev_37, ev_76, ev_36, mz_rl d_Office_match_31, mz_rl d_Office_match_44, mz_rl d_Office_match_45, mz_rl d_Office_match_48, mz_rl d_Office_match_49, mz_rl d_Office_match_50, mz_rl d_Office_match_52, mz_rl d_Office_match_54, j_Office_match_31, nF_0, eq_false hy]
          exact mz_throw hfl (by decide) (by simp only [d_Office_match]) (by simp only [d_Office_match, Nat.reduceAdd]) (by simp only [d_Office_match, Nat.reduceAdd]) (by simp only [d_Office_match, Nat.reduceAdd]) (by simp only [d_Office_match, Nat.reduceAdd]) th_s_146 th_w_113 (by decide +kernel) th_fits (by decide) (by decide) (by decide) (by decide) ⟨Or.inl ⟨rfl, fun q => hy q.2.2.2⟩, rfl, rfl⟩
      · refine mz_go [34] 20 ?_
        simp only [mz_r0, mk_lit, mk_fin, mk_cat, mk_fit, mk_nar, mk_cls, mk_ty, mk_isr, List.mem_cons, List.not_mem_nil, or_false, or_true, false_or, true_or, Nat.reduceEqDiff, Nat.reduceAdd, Nat.reduceSub, Nat.reduceLT, Nat.reduceLeDiff, ↓reduceIte, if_true, if_false, List.getElem?_cons_zero, List.getElem?_cons_succ, List.set_cons_zero, List.set_cons_succ, List.length_cons, List.length_nil, mz_s1, mz_s2, mz_cl, true_and, and_true, false_and, and_false, List.append_nil, mk_b0, mk_b1, mk_b2, mk_bn, Value.int.injEq, Option.toList_some, Option.toList_none, List.cons_append, List.nil_append, Classical.not_not, Option.some.injEq, reduceCtorEq, ne_eq, not_true_eq_false, not_false_eq_true, false_implies, true_implies, ev_49, ev_36, mz_rl d_Office_match_21, mz_rl d_Office_match_24, mz_rl d_Office_match_26, mz_rl d_Office_match_28, j_Office_match_21, nF_0, eq_false hx3]
        exact mz_throw hfl (by decide) (by simp only [d_Office_match]) (by simp only [d_Office_match, Nat.reduceAdd]) (by simp only [d_Office_match, Nat.reduceAdd]) (by simp only [d_Office_match, Nat.reduceAdd]) (by simp only [d_Office_match, Nat.reduceAdd]) th_s_146 th_w_113 (by decide +kernel) th_fits (by decide) (by decide) (by decide) (by decide) ⟨Or.inl ⟨rfl, fun q => hx3 q.2.2.1⟩, rfl, rfl⟩
    · refine mz_go [34] 20 ?_
      simp only [mz_r0, mk_lit, mk_fin, mk_cat, mk_fit, mk_nar, mk_cls, mk_ty, mk_isr, List.mem_cons, List.not_mem_nil, or_false, or_true, false_or, true_or, Nat.reduceEqDiff, Nat.reduceAdd, Nat.reduceSub, Nat.reduceLT, Nat.reduceLeDiff, ↓reduceIte, if_true, if_false, List.getElem?_cons_zero, List.getElem?_cons_succ, List.set_cons_zero, List.set_cons_succ, List.length_cons, List.length_nil, mz_s1, mz_s2, mz_cl, true_and, and_true, false_and, and_false, List.append_nil, mk_b0, mk_b1, mk_b2, mk_bn, Value.int.injEq, Option.toList_some, Option.toList_none, List.cons_append, List.nil_append, Classical.not_not, Option.some.injEq, reduceCtorEq, ne_eq, not_true_eq_false, not_false_eq_true, false_implies, true_implies, ev_49, ev_37, mz_rl d_Office_match_13, mz_rl d_Office_match_16, mz_rl d_Office_match_17, mz_rl d_Office_match_18, j_Office_match_13, nF_0, eq_false hx2]
      exact mz_throw hfl (by decide) (by simp only [d_Office_match]) (by simp only [d_Office_match, Nat.reduceAdd]) (by simp only [d_Office_match, Nat.reduceAdd]) (by simp only [d_Office_match, Nat.reduceAdd]) (by simp only [d_Office_match, Nat.reduceAdd]) th_s_146 th_w_113 (by decide +kernel) th_fits (by decide) (by decide) (by decide) (by decide) ⟨Or.inl ⟨rfl, fun q => hx2 q.2.1⟩, rfl, rfl⟩
  · refine mz_go [34] 20 ?_
    simp only [mz_r0, mk_lit, mk_fin, mk_cat, mk_fit, mk_nar, mk_cls, mk_ty, mk_isr, List.mem_cons, List.not_mem_nil, or_false, or_true, false_or, true_or, Nat.reduceEqDiff, Nat.reduceAdd, Nat.reduceSub, Nat.reduceLT, Nat.reduceLeDiff, ↓reduceIte, if_true, if_false, List.getElem?_cons_zero, List.getElem?_cons_succ, List.set_cons_zero, List.set_cons_succ, List.length_cons, List.length_nil, mz_s1, mz_s2, mz_cl, true_and, and_true, false_and, and_false, List.append_nil, mk_b0, mk_b1, mk_b2, mk_bn, Value.int.injEq, Option.toList_some, Option.toList_none, List.cons_append, List.nil_append, Classical.not_not, Option.some.injEq, reduceCtorEq, ne_eq, not_true_eq_false, not_false_eq_true, false_implies, true_implies, ev_49, ev_37, mz_rl d_Office_match_5, mz_rl d_Office_match_8, mz_rl d_Office_match_9, mz_rl d_Office_match_10, j_Office_match_5, nF_0, eq_false hx]
    exact mz_throw hfl (by decide) (by simp only [d_Office_match]) (by simp only [d_Office_match, Nat.reduceAdd]) (by simp only [d_Office_match, Nat.reduceAdd]) (by simp only [d_Office_match, Nat.reduceAdd]) (by simp only [d_Office_match, Nat.reduceAdd]) th_s_146 th_w_113 (by decide +kernel) th_fits (by decide) (by decide) (by decide) (by decide) ⟨Or.inl ⟨rfl, fun q => hx q.1⟩, rfl, rfl⟩
end
section
/-- reproduce: its answer, and the decks and cards behind it -/
def rpP (f : mz_H) (K : Nat) (sz : Nat → Nat) (cd s : Nat → Nat → Nat) (B : bS) (x y z : Int32) (v : Option Value) (n' : Nat) (f' : mz_H) : Prop := ∃ b i j R, b < 4 ∧ x = nI b ∧ i < 8 ∧ y = nI i ∧ j < 8 ∧ z = nI j ∧ i ≠ j ∧ R = cdF (B.2.1 b) (B.2.2.1 b) (B.1 b) (200 - K) K (sz j) (cd i) (sz i) 0 s (cd j) ∧ v = some (.int (nI R.2.1)) ∧ CI f' n' (K + R.2.1) (va_up sz j (sz j + R.2.1)) (va_up cd j R.2.2.2) R.2.2.1 ∧ FrB f f' ∧ MU f f' (lg_U R.1 R.2.1)
/-- gang -/
def gaP (f : mz_H) (n K : Nat) (sz : Nat → Nat) (cd s : Nat → Nat → Nat) (B : bS) (x y z : Int32) (v : Option Value) (n' : Nat) (f' : mz_H) : Prop := ∃ b i j R, b < 4 ∧ x = nI b ∧ i < 8 ∧ y = nI i ∧ j < 16 ∧ z = nI j ∧ R = gaF (B.2.1 b) (B.2.2.1 b) (B.1 b) j (cd i) (sz i) 0 none s ∧ v = some (.int (nI R.2.1)) ∧ n' = n ∧ CI f' n K sz cd R.2.2 ∧ FrB f f' ∧ MU f f' (lg_U R.1 R.2.1)
def okFa (y : Int32) : Prop := 0 ≤ y.toInt ∧ y.toInt < 96 ∧ y.toInt % 16 + y.toInt / 16 < 16
def okMu (x y z w : Int32) : Prop := (0 ≤ x.toInt ∧ x.toInt < 8) ∧ okFa y ∧ okFa z ∧ okFa w ∧ ¬ (w.toNatClampNeg % 16 < y.toNatClampNeg % 16 + (y.toNatClampNeg / 16 + 1) ∧ y.toNatClampNeg % 16 < w.toNatClampNeg % 16 + (w.toNatClampNeg / 16 + 1)) ∧ ¬ (w.toNatClampNeg % 16 < z.toNatClampNeg % 16 + (z.toNatClampNeg / 16 + 1) ∧ z.toNatClampNeg % 16 < w.toNatClampNeg % 16 + (w.toNatClampNeg / 16 + 1))
/-- multiply -/
def muP (f : mz_H) (n K : Nat) (sz : Nat → Nat) (cd s : Nat → Nat → Nat) (x y z w : Int32) (v : Option Value) (n' : Nat) (f' : mz_H) : Prop := ∃ i j k l R, i < 8 ∧ x = nI i ∧ facOk j ∧ y = nI j ∧ facOk k ∧ z = nI k ∧ facOk l ∧ w = nI l ∧ okMu x y z w ∧ R = muF j k l (cd i) (sz i) 0 s ∧ v = some (.int (nI R.2.1)) ∧ n' = n ∧ CI f' n K sz cd R.2.2 ∧ FrB f f' ∧ MU f f' (lg_U R.1 R.2.1)
set_option maxRecDepth 20000 in
theorem x_Office_reproduce (G : mz_G) (hfl : G.1.flags = pinnedFlags ++ [noTraceFlag]) (n : Nat) (f : mz_H) {x y z : Int32} {K : Nat} {sz : Nat → Nat} {cd s : Nat → Nat → Nat} (h : CI f n K sz cd s) {B : bS} (hB : BX f B) (hk : bOk B) :
    mz_X G mk_P 0 false b_Office_reproduce 4 (some .int) (r_Office_reproduce 400 3400) (rpP f K sz cd s B x y z) (fun ec n' f' => ec = "java/lang/IllegalArgumentException" ∧ n' = n ∧ f' = f ∧ ¬ okRp x y z) 0 [some (.ref 0), some (.int x), some (.int y), some (.int z)] [] 0 0 n f := by
  obtain ⟨lx, h1, h2, h3, h4, h5, h6, h7⟩ := id h
  subst h1
  have ho := h3.1
  have hq := h3.2.1
  have hb := h3.2.2.1
  have hs8 : s8 sz = K := h6.2
  obtain ⟨c1, c2, c3, c4, c5, c6, c7, c8, c9, c10, c11, c12, c13, c14, c15⟩ := id h3
  refine mz_go [1] 20 ?_
  simp only [mz_r0, mk_lit, mk_fin, mk_cat, mk_fit, mk_nar, mk_cls, mk_ty, mk_isr, List.mem_cons, List.not_mem_nil, or_false, or_true, false_or, true_or, Nat.reduceEqDiff, Nat.reduceAdd, Nat.reduceSub, Nat.reduceLT, Nat.reduceLeDiff, ↓reduceIte, if_true, if_false, List.getElem?_cons_zero, List.getElem?_cons_succ, List.set_cons_zero, List.set_cons_succ, List.length_cons, List.length_nil, mz_s1, mz_s2, mz_cl, true_and, and_true, false_and, and_false, List.append_nil, mk_b0, mk_b1, mk_b2, mk_bn, Value.int.injEq, Option.toList_some, Option.toList_none, List.cons_append, List.nil_append, Classical.not_not, Option.some.injEq, reduceCtorEq, ne_eq, not_true_eq_false, not_false_eq_true, false_implies, true_implies, ev_37, mz_rl d_Office_reproduce_0, nF_0]
  refine mz_callS (by simp only [d_Office_reproduce_1, Nat.reduceAdd]) g_0_84 rfl (fun _ _ h => h) (c_Office_isBoard G mk_P (172 + 2 * K) f x) (by decide) (Nat.le_of_ble_eq_true rfl) rfl ?_; intro v_ n_ f_ h_; obtain ⟨rfl, hn_, hf_⟩ := h_; replace hn_ := hn_.symm; replace hf_ := hf_.symm; subst hn_; subst hf_
  by_cases hx : 0 ≤ x.toInt ∧ x.toInt < 4
  · refine mz_go [9] 20 ?_
    simp only [mz_r0, mk_lit, mk_fin, mk_cat, mk_fit, mk_nar, mk_cls, mk_ty, mk_isr, List.mem_cons, List.not_mem_nil, or_false, or_true, false_or, true_or, Nat.reduceEqDiff, Nat.reduceAdd, Nat.reduceSub, Nat.reduceLT, Nat.reduceLeDiff, ↓reduceIte, if_true, if_false, List.getElem?_cons_zero, List.getElem?_cons_succ, List.set_cons_zero, List.set_cons_succ, List.length_cons, List.length_nil, mz_s1, mz_s2, mz_cl, true_and, and_true, false_and, and_false, List.append_nil, mk_b0, mk_b1, mk_b2, mk_bn, Value.int.injEq, Option.toList_some, Option.toList_none, List.cons_append, List.nil_append, Classical.not_not, Option.some.injEq, reduceCtorEq, ne_eq, not_true_eq_false, not_false_eq_true, false_implies, true_implies, ev_49, ev_37, mz_rl d_Office_reproduce_4, mz_rl d_Office_reproduce_7, mz_rl d_Office_reproduce_8, mz_rl d_Office_reproduce_15, j_Office_reproduce_4, nF_0, eq_true hx]
    refine mz_callS (by simp only [d_Office_reproduce_9, Nat.reduceAdd]) g_0_129 rfl (fun _ _ h => h) (c_Office_areTwoDecks G mk_P (172 + 2 * K) f y z) (by decide) (Nat.le_of_ble_eq_true rfl) rfl ?_; intro v_ n_ f_ h_; obtain ⟨rfl, hn_, hf_⟩ := h_; replace hn_ := hn_.symm; replace hf_ := hf_.symm; subst hn_; subst hf_
    by_cases hy : (0 ≤ y.toInt ∧ y.toInt < 8) ∧ (0 ≤ z.toInt ∧ z.toInt < 8) ∧ y.toInt ≠ z.toInt
    · obtain ⟨b, hb', rfl⟩ := mk_nat (x := x) (N := 4) hx.1 hx.2 (by decide)
      obtain ⟨i, hi, rfl⟩ := mk_nat (x := y) (N := 8) hy.1.1 hy.1.2 (by decide)
      obtain ⟨j, hj, rfl⟩ := mk_nat (x := z) (N := 8) hy.2.1.1 hy.2.1.2 (by decide)
      have hij : i ≠ j := by rintro rfl; exact hy.2.2 rfl
      have q1 := hB b hb'
      have q2 := hk b hb'
      obtain ⟨g, e1, e2, e3⟩ := h6.1 i hi
      obtain ⟨go, o1, o2, o3⟩ := h6.1 j hj
      obtain ⟨u4, w4, k4⟩ := c5
      obtain ⟨cl, k14⟩ := c13
      obtain ⟨gc, k15⟩ := c14
      have hsi := s8_le2 sz hi hj hij
      refine mz_go [51] 40 ?_
      simp only [mz_r0, mk_lit, mk_fin, mk_cat, mk_fit, mk_nar, mk_cls, mk_ty, mk_isr, List.mem_cons, List.not_mem_nil, or_false, or_true, false_or, true_or, Nat.reduceEqDiff, Nat.reduceAdd, Nat.reduceSub, Nat.reduceLT, Nat.reduceLeDiff, ↓reduceIte, if_true, if_false, List.getElem?_cons_zero, List.getElem?_cons_succ, List.set_cons_zero, List.set_cons_succ, List.length_cons, List.length_nil, mz_s1, mz_s2, mz_cl, true_and, and_true, false_and, and_false, List.append_nil, mk_b0, mk_b1, mk_b2, mk_bn, Value.int.injEq, Option.toList_some, Option.toList_none, List.cons_append, List.nil_append, Classical.not_not, Option.some.injEq, reduceCtorEq, ne_eq, not_true_eq_false, not_false_eq_true, false_implies, true_implies, ev_51, ev_41, ev_79, ft_0_6, fn_0_6, ft_0_1, fn_0_1, ev_37, ev_76, ft_0_0, fn_0_0, ev_2, mz_rl d_Office_reproduce_12, mz_rl d_Office_reproduce_15, mz_rl d_Office_reproduce_25, mz_rl d_Office_reproduce_26, mz_rl d_Office_reproduce_29, mz_rl d_Office_reproduce_30, mz_rl d_Office_reproduce_33, mz_rl d_Office_reproduce_34, mz_rl d_Office_reproduce_35, mz_rl d_Office_reproduce_36, mz_rl d_Office_reproduce_39, mz_rl d_Office_reproduce_40, mz_rl d_Office_reproduce_41, mz_rl d_Office_reproduce_42, mz_rl d_Office_reproduce_45, mz_rl d_Office_reproduce_46, mz_rl d_Office_reproduce_47, mz_rl d_Office_reproduce_50, j_Office_reproduce_12, nF_0, eq_true hy, ho, hq, hb, vp_in_nI hb' (show 4 < 2 ^ 31 by decide), nI_clamp (show b < 2 ^ 31 by omega), boardQ_at hb', vp_in_nI hi (show 8 < 2 ^ 31 by decide), nI_clamp (show i < 2 ^ 31 by omega), deckQ_at hi, vp_in_nI hj (show 8 < 2 ^ 31 by decide), nI_clamp (show j < 2 ^ 31 by omega), deckQ_at hj, va_rf]
      refine mz_callV (by simp only [d_Office_reproduce_51, Nat.reduceAdd]) g_0_66 rfl (fun _ _ h => h) (c_Office_cardsInAll G (172 + 2 * K) f ho hq h6) ho rfl rfl (by decide) (Nat.le_of_ble_eq_true rfl) rfl ?_; intro v_ n_ f_ h_; obtain ⟨rfl, hn_, hf_⟩ := h_; replace hn_ := hn_.symm; replace hf_ := hf_.symm; subst hn_; subst hf_
      have esub : nI 200 - nI K = nI (200 - K) := pk_sub h2
      refine mz_go [59] 40 ?_
      simp only [mz_r0, mk_lit, mk_fin, mk_cat, mk_fit, mk_nar, mk_cls, mk_ty, mk_isr, List.mem_cons, List.not_mem_nil, or_false, or_true, false_or, true_or, Nat.reduceEqDiff, Nat.reduceAdd, Nat.reduceSub, Nat.reduceLT, Nat.reduceLeDiff, ↓reduceIte, if_true, if_false, List.getElem?_cons_zero, List.getElem?_cons_succ, List.set_cons_zero, List.set_cons_succ, List.length_cons, List.length_nil, mz_s1, mz_s2, mz_cl, true_and, and_true, false_and, and_false, List.append_nil, mk_b0, mk_b1, mk_b2, mk_bn, Value.int.injEq, Option.toList_some, Option.toList_none, List.cons_append, List.nil_append, Classical.not_not, Option.some.injEq, reduceCtorEq, ne_eq, not_true_eq_false, not_false_eq_true, false_implies, true_implies, ev_6, ev_41, ev_79, ft_0_3, fn_0_3, mz_rl d_Office_reproduce_54, mz_rl d_Office_reproduce_55, mz_rl d_Office_reproduce_56, nF_0, ho, esub]
      refine mz_callV (by simp only [d_Office_reproduce_59, Nat.reduceAdd]) g_0_154 rfl (fun _ _ h => h) (c_Reproducer_copyDeck G f c12 k14 k15 q1 q2 ⟨by omega, by omega⟩ e1 e2 o1 o2 k4 ⟨by omega, by omega⟩ ⟨by omega, by omega⟩ ⟨by omega, by omega⟩ ⟨by omega, by omega⟩ (by omega) (by omega) (by omega) (by omega) (by omega) (by omega) (by omega) (by omega) e3 o3 h7 (by omega) (by omega)) c12 rfl rfl (by decide) (Nat.le_of_ble_eq_true rfl) rfl ?_; rintro v_ n_ f_ ⟨g', gc', cl', rfl, rfl, hm1, hm2, hF, F4, F14, F15, Fe, Fea, hPs, hCd⟩
      refine mz_go [] 20 ?_
      simp only [mz_r0, mk_lit, mk_fin, mk_cat, mk_fit, mk_nar, mk_cls, mk_ty, mk_isr, List.mem_cons, List.not_mem_nil, or_false, or_true, false_or, true_or, Nat.reduceEqDiff, Nat.reduceAdd, Nat.reduceSub, Nat.reduceLT, Nat.reduceLeDiff, ↓reduceIte, if_true, if_false, List.getElem?_cons_zero, List.getElem?_cons_succ, List.set_cons_zero, List.set_cons_succ, List.length_cons, List.length_nil, mz_s1, mz_s2, mz_cl, true_and, and_true, false_and, and_false, List.append_nil, mk_b0, mk_b1, mk_b2, mk_bn, Value.int.injEq, Option.toList_some, Option.toList_none, List.cons_append, List.nil_append, Classical.not_not, Option.some.injEq, reduceCtorEq, ne_eq, not_true_eq_false, not_false_eq_true, false_implies, true_implies, ev_64, mz_rl d_Office_reproduce_62, nF_0]
      generalize hRe : cdF (B.2.1 b) (B.2.2.1 b) (B.1 b) (200 - K) K (sz j) (cd i) (sz i) 0 s (cd j) = R at *
      have hF' : ∀ q, (q < 172 ∨ q = 1000000000001) → q ≠ 4 → q ≠ 14 → q ≠ 15 → q ≠ 126 + 2 * j → q ≠ 127 + 2 * j → f_ q = f q := fun q z1 z2 z3 z4 z5 z6 => hF q z1 (by simp; omega)
      suffices hCI : CI f_ (172 + 2 * (K + R.2.1)) (K + R.2.1) (va_up sz j (sz j + R.2.1)) (va_up cd j R.2.2.2) R.2.2.1 ∧ FrB f f_ from ⟨b, i, j, R, hb', rfl, hi, rfl, hj, rfl, hij, hRe.symm, rfl, hCI.1, hCI.2, MU_l F4 (hF' 5 (by omega) (by omega) (by omega) (by omega) (by omega) (by omega)) (hF' 8 (by omega) (by omega) (by omega) (by omega) (by omega) (by omega))⟩
      refine CI_mk (K' := K + R.2.1) h3 h4 h5 ?_ ⟨_, _, F4⟩ ?_ ?_ ?_ ?_ (Dk0_mono (Dk0_eq c10 (hF' _ (by omega) (by omega) (by omega) (by omega) (by omega) (by omega)) (hF' _ (by omega) (by omega) (by omega) (by omega) (by omega) (by omega))) (by omega)) (Dk0_mono (Dk0_eq c11 (hF' _ (by omega) (by omega) (by omega) (by omega) (by omega) (by omega)) (hF' _ (by omega) (by omega) (by omega) (by omega) (by omega) (by omega))) (by omega)) ⟨_, F14⟩ ⟨_, F15⟩ (fun q hq => hF' q (by omega) (by omega) (by omega) (by omega) (by omega) (by omega)) (CD_one h6 hj (by omega) ⟨g', Fe, Fea, hPs⟩ (fun q z1 z2 z3 z4 => hF' q (by omega) (by omega) (by omega) (by omega) z3 z4) (by omega)) hCd hm1 rfl
      all_goals (rw [hF' _ (by omega) (by omega) (by omega) (by omega) (by omega) (by omega)]; assumption)
    · refine mz_go [15] 20 ?_
      simp only [mz_r0, mk_lit, mk_fin, mk_cat, mk_fit, mk_nar, mk_cls, mk_ty, mk_isr, List.mem_cons, List.not_mem_nil, or_false, or_true, false_or, true_or, Nat.reduceEqDiff, Nat.reduceAdd, Nat.reduceSub, Nat.reduceLT, Nat.reduceLeDiff, ↓reduceIte, if_true, if_false, List.getElem?_cons_zero, List.getElem?_cons_succ, List.set_cons_zero, List.set_cons_succ, List.length_cons, List.length_nil, mz_s1, mz_s2, mz_cl, true_and, and_true, false_and, and_false, List.append_nil, mk_b0, mk_b1, mk_b2, mk_bn, Value.int.injEq, Option.toList_some, Option.toList_none, List.cons_append, List.nil_append, Classical.not_not, Option.some.injEq, reduceCtorEq, ne_eq, not_true_eq_false, not_false_eq_true, false_implies, true_implies, ev_51, ev_41, ev_79, ft_0_6, fn_0_6, ft_0_1, fn_0_1, ev_37, ev_76, ft_0_0, fn_0_0, ev_2, mz_rl d_Office_reproduce_12, mz_rl d_Office_reproduce_25, mz_rl d_Office_reproduce_26, mz_rl d_Office_reproduce_29, mz_rl d_Office_reproduce_30, mz_rl d_Office_reproduce_33, mz_rl d_Office_reproduce_34, mz_rl d_Office_reproduce_35, mz_rl d_Office_reproduce_36, mz_rl d_Office_reproduce_39, mz_rl d_Office_reproduce_40, mz_rl d_Office_reproduce_41, mz_rl d_Office_reproduce_42, mz_rl d_Office_reproduce_45, mz_rl d_Office_reproduce_46, mz_rl d_Office_reproduce_47, mz_rl d_Office_reproduce_50, mz_rl d_Office_reproduce_51, j_Office_reproduce_12, nF_0, eq_false hy]
      exact mz_throw hfl (by decide) (by simp only [d_Office_reproduce]) (by simp only [d_Office_reproduce, Nat.reduceAdd]) (by simp only [d_Office_reproduce, Nat.reduceAdd]) (by simp only [d_Office_reproduce, Nat.reduceAdd]) (by simp only [d_Office_reproduce, Nat.reduceAdd]) th_s_152 th_w_113 (by decide +kernel) th_fits (by decide) (by decide) (by decide) (by decide) ⟨rfl, rfl, rfl, fun q => hy q.2⟩
  · refine mz_go [15] 20 ?_
    simp only [mz_r0, mk_lit, mk_fin, mk_cat, mk_fit, mk_nar, mk_cls, mk_ty, mk_isr, List.mem_cons, List.not_mem_nil, or_false, or_true, false_or, true_or, Nat.reduceEqDiff, Nat.reduceAdd, Nat.reduceSub, Nat.reduceLT, Nat.reduceLeDiff, ↓reduceIte, if_true, if_false, List.getElem?_cons_zero, List.getElem?_cons_succ, List.set_cons_zero, List.set_cons_succ, List.length_cons, List.length_nil, mz_s1, mz_s2, mz_cl, true_and, and_true, false_and, and_false, List.append_nil, mk_b0, mk_b1, mk_b2, mk_bn, Value.int.injEq, Option.toList_some, Option.toList_none, List.cons_append, List.nil_append, Classical.not_not, Option.some.injEq, reduceCtorEq, ne_eq, not_true_eq_false, not_false_eq_true, false_implies, true_implies, ev_49, ev_37, mz_rl d_Office_reproduce_4, mz_rl d_Office_reproduce_7, mz_rl d_Office_reproduce_8, mz_rl d_Office_reproduce_9, j_Office_reproduce_4, nF_0, eq_false hx]
    exact mz_throw hfl (by decide) (by simp only [d_Office_reproduce]) (by simp only [d_Office_reproduce, Nat.reduceAdd]) (by simp only [d_Office_reproduce, Nat.reduceAdd]) (by simp only [d_Office_reproduce, Nat.reduceAdd]) (by simp only [d_Office_reproduce, Nat.reduceAdd]) th_s_152 th_w_113 (by decide +kernel) th_fits (by decide) (by decide) (by decide) (by decide) ⟨rfl, rfl, rfl, fun q => hx q.1⟩
set_option maxRecDepth 20000 in
theorem x_Office_gang (G : mz_G) (hfl : G.1.flags = pinnedFlags ++ [noTraceFlag]) (n : Nat) (f : mz_H) {x y z : Int32} {K : Nat} {sz : Nat → Nat} {cd s : Nat → Nat → Nat} (h : CI f n K sz cd s) {B : bS} (hB : BX f B) (hk : bOk B) :
    mz_X G mk_P 0 false b_Office_gang 4 (some .int) (r_Office_gang 1 6) (gaP f n K sz cd s B x y z) (fun ec n' f' => ec = "java/lang/IllegalArgumentException" ∧ n' = n ∧ f' = f ∧ ¬ okGa x y z) 0 [some (.ref 0), some (.int x), some (.int y), some (.int z)] [] 0 0 n f := by
  obtain ⟨lx, h1, h2, h3, h4, h5, h6, h7⟩ := id h
  have ho := h3.1
  have hq := h3.2.1
  have hb := h3.2.2.1
  have hs8 : s8 sz = K := h6.2
  obtain ⟨c1, c2, c3, c4, c5, c6, c7, c8, c9, c10, c11, c12, c13, c14, c15⟩ := id h3
  refine mz_go [1] 20 ?_
  simp only [mz_r0, mk_lit, mk_fin, mk_cat, mk_fit, mk_nar, mk_cls, mk_ty, mk_isr, List.mem_cons, List.not_mem_nil, or_false, or_true, false_or, true_or, Nat.reduceEqDiff, Nat.reduceAdd, Nat.reduceSub, Nat.reduceLT, Nat.reduceLeDiff, ↓reduceIte, if_true, if_false, List.getElem?_cons_zero, List.getElem?_cons_succ, List.set_cons_zero, List.set_cons_succ, List.length_cons, List.length_nil, mz_s1, mz_s2, mz_cl, true_and, and_true, false_and, and_false, List.append_nil, mk_b0, mk_b1, mk_b2, mk_bn, Value.int.injEq, Option.toList_some, Option.toList_none, List.cons_append, List.nil_append, Classical.not_not, Option.some.injEq, reduceCtorEq, ne_eq, not_true_eq_false, not_false_eq_true, false_implies, true_implies, ev_37, mz_rl d_Office_gang_0, nF_0]
  refine mz_callS (by simp only [d_Office_gang_1, Nat.reduceAdd]) g_0_84 rfl (fun _ _ h => h) (c_Office_isBoard G mk_P n f x) (by decide) (Nat.le_of_ble_eq_true rfl) rfl ?_; intro v_ n_ f_ h_; obtain ⟨rfl, hn_, hf_⟩ := h_; replace hn_ := hn_.symm; replace hf_ := hf_.symm; subst hn_; subst hf_
  by_cases hx : 0 ≤ x.toInt ∧ x.toInt < 4
  · refine mz_go [8] 20 ?_
    simp only [mz_r0, mk_lit, mk_fin, mk_cat, mk_fit, mk_nar, mk_cls, mk_ty, mk_isr, List.mem_cons, List.not_mem_nil, or_false, or_true, false_or, true_or, Nat.reduceEqDiff, Nat.reduceAdd, Nat.reduceSub, Nat.reduceLT, Nat.reduceLeDiff, ↓reduceIte, if_true, if_false, List.getElem?_cons_zero, List.getElem?_cons_succ, List.set_cons_zero, List.set_cons_succ, List.length_cons, List.length_nil, mz_s1, mz_s2, mz_cl, true_and, and_true, false_and, and_false, List.append_nil, mk_b0, mk_b1, mk_b2, mk_bn, Value.int.injEq, Option.toList_some, Option.toList_none, List.cons_append, List.nil_append, Classical.not_not, Option.some.injEq, reduceCtorEq, ne_eq, not_true_eq_false, not_false_eq_true, false_implies, true_implies, ev_49, ev_37, mz_rl d_Office_gang_4, mz_rl d_Office_gang_7, mz_rl d_Office_gang_21, j_Office_gang_4, nF_0, eq_true hx]
    refine mz_callS (by simp only [d_Office_gang_8, Nat.reduceAdd]) g_0_62 rfl (fun _ _ h => h) (c_Office_isDeck G mk_P n f y) (by decide) (Nat.le_of_ble_eq_true rfl) rfl ?_; intro v_ n_ f_ h_; obtain ⟨rfl, hn_, hf_⟩ := h_; replace hn_ := hn_.symm; replace hf_ := hf_.symm; subst hn_; subst hf_
    by_cases hy : 0 ≤ y.toInt ∧ y.toInt < 8
    · refine mz_go [15] 20 ?_
      simp only [mz_r0, mk_lit, mk_fin, mk_cat, mk_fit, mk_nar, mk_cls, mk_ty, mk_isr, List.mem_cons, List.not_mem_nil, or_false, or_true, false_or, true_or, Nat.reduceEqDiff, Nat.reduceAdd, Nat.reduceSub, Nat.reduceLT, Nat.reduceLeDiff, ↓reduceIte, if_true, if_false, List.getElem?_cons_zero, List.getElem?_cons_succ, List.set_cons_zero, List.set_cons_succ, List.length_cons, List.length_nil, mz_s1, mz_s2, mz_cl, true_and, and_true, false_and, and_false, List.append_nil, mk_b0, mk_b1, mk_b2, mk_bn, Value.int.injEq, Option.toList_some, Option.toList_none, List.cons_append, List.nil_append, Classical.not_not, Option.some.injEq, reduceCtorEq, ne_eq, not_true_eq_false, not_false_eq_true, false_implies, true_implies, ev_49, ev_37, mz_rl d_Office_gang_11, mz_rl d_Office_gang_14, mz_rl d_Office_gang_21, j_Office_gang_11, nF_0, eq_true hy]
      refine mz_callS (by simp only [d_Office_gang_15, Nat.reduceAdd]) g_0_106 rfl (fun _ _ h => h) (c_Office_isColumn G mk_P n f z) (by decide) (Nat.le_of_ble_eq_true rfl) rfl ?_; intro v_ n_ f_ h_; obtain ⟨rfl, hn_, hf_⟩ := h_; replace hn_ := hn_.symm; replace hf_ := hf_.symm; subst hn_; subst hf_
      by_cases hz : 0 ≤ z.toInt ∧ z.toInt < 16
      · obtain ⟨b, hb', rfl⟩ := mk_nat (x := x) (N := 4) hx.1 hx.2 (by decide)
        obtain ⟨i, hi, rfl⟩ := mk_nat (x := y) (N := 8) hy.1 hy.2 (by decide)
        obtain ⟨j, hj, rfl⟩ := mk_nat (x := z) (N := 16) hz.1 hz.2 (by decide)
        have q1 := hB b hb'
        have q2 := hk b hb'
        obtain ⟨g, e1, e2, e3⟩ := h6.1 i hi
        obtain ⟨u4, w4, k4⟩ := c5
        obtain ⟨cl, k14⟩ := c13
        obtain ⟨gc, k15⟩ := c14
        have hsi := s8_le sz hi
        refine mz_go [52] 40 ?_
        simp only [mz_r0, mk_lit, mk_fin, mk_cat, mk_fit, mk_nar, mk_cls, mk_ty, mk_isr, List.mem_cons, List.not_mem_nil, or_false, or_true, false_or, true_or, Nat.reduceEqDiff, Nat.reduceAdd, Nat.reduceSub, Nat.reduceLT, Nat.reduceLeDiff, ↓reduceIte, if_true, if_false, List.getElem?_cons_zero, List.getElem?_cons_succ, List.set_cons_zero, List.set_cons_succ, List.length_cons, List.length_nil, mz_s1, mz_s2, mz_cl, true_and, and_true, false_and, and_false, List.append_nil, mk_b0, mk_b1, mk_b2, mk_bn, Value.int.injEq, Option.toList_some, Option.toList_none, List.cons_append, List.nil_append, Classical.not_not, Option.some.injEq, reduceCtorEq, ne_eq, not_true_eq_false, not_false_eq_true, false_implies, true_implies, ev_51, ev_41, ev_79, ft_0_6, fn_0_6, ft_0_1, fn_0_1, ev_37, ev_76, ft_0_0, fn_0_0, ft_0_3, fn_0_3, mz_rl d_Office_gang_18, mz_rl d_Office_gang_21, mz_rl d_Office_gang_31, mz_rl d_Office_gang_32, mz_rl d_Office_gang_35, mz_rl d_Office_gang_36, mz_rl d_Office_gang_39, mz_rl d_Office_gang_40, mz_rl d_Office_gang_41, mz_rl d_Office_gang_42, mz_rl d_Office_gang_45, mz_rl d_Office_gang_46, mz_rl d_Office_gang_47, mz_rl d_Office_gang_48, mz_rl d_Office_gang_49, j_Office_gang_18, nF_0, eq_true hz, ho, hq, hb, vp_in_nI hb' (show 4 < 2 ^ 31 by decide), nI_clamp (show b < 2 ^ 31 by omega), boardQ_at hb', vp_in_nI hi (show 8 < 2 ^ 31 by decide), nI_clamp (show i < 2 ^ 31 by omega), deckQ_at hi, va_rf]
        refine mz_callV (by simp only [d_Office_gang_52, Nat.reduceAdd]) g_0_160 rfl (fun _ _ h => h) (c_Reproducer_punchGangs G n f c12 k14 k15 q1 q2 ⟨by omega, by omega⟩ e1 e2 k4 ⟨by omega, by omega⟩ ⟨by omega, by omega⟩ (by omega) e3 h2 hj h7) c12 rfl rfl (by decide) (Nat.le_of_ble_eq_true rfl) rfl ?_; rintro v_ n_ f_ ⟨gc', cl', rfl, rfl, hF, F4, F14, F15, hCd⟩
        refine mz_go [] 20 ?_
        simp only [mz_r0, mk_lit, mk_fin, mk_cat, mk_fit, mk_nar, mk_cls, mk_ty, mk_isr, List.mem_cons, List.not_mem_nil, or_false, or_true, false_or, true_or, Nat.reduceEqDiff, Nat.reduceAdd, Nat.reduceSub, Nat.reduceLT, Nat.reduceLeDiff, ↓reduceIte, if_true, if_false, List.getElem?_cons_zero, List.getElem?_cons_succ, List.set_cons_zero, List.set_cons_succ, List.length_cons, List.length_nil, mz_s1, mz_s2, mz_cl, true_and, and_true, false_and, and_false, List.append_nil, mk_b0, mk_b1, mk_b2, mk_bn, Value.int.injEq, Option.toList_some, Option.toList_none, List.cons_append, List.nil_append, Classical.not_not, Option.some.injEq, reduceCtorEq, ne_eq, not_true_eq_false, not_false_eq_true, false_implies, true_implies, ev_64, mz_rl d_Office_gang_55, nF_0]
        have hF' : ∀ q, (q < 172 ∨ q = 1000000000001) → q ≠ 4 → q ≠ 14 → q ≠ 15 → f_ q = f q := fun q z1 z2 z3 z4 => hF q z1 (by simp; omega)
        suffices hCI : CI f_ n_ K sz cd (gaF (B.2.1 b) (B.2.2.1 b) (B.1 b) j (cd i) (sz i) 0 none s).2.2 ∧ FrB f f_ from ⟨b, i, j, _, hb', rfl, hi, rfl, hj, rfl, rfl, rfl, rfl, hCI.1, hCI.2, MU_l F4 (hF' 5 (by omega) (by omega) (by omega) (by omega)) (hF' 8 (by omega) (by omega) (by omega) (by omega))⟩
        refine CI_mk h3 h4 h5 ?_ ⟨_, _, F4⟩ ?_ ?_ ?_ ?_ (Dk0_eq c10 (hF' _ (by omega) (by omega) (by omega) (by omega)) (hF' _ (by omega) (by omega) (by omega) (by omega))) (Dk0_eq c11 (hF' _ (by omega) (by omega) (by omega) (by omega)) (hF' _ (by omega) (by omega) (by omega) (by omega))) ⟨_, F14⟩ ⟨_, F15⟩ (fun q hq => hF' q (by omega) (by omega) (by omega) (by omega)) (CD_eq h6 (fun q z1 z2 => hF' q (by omega) (by omega) (by omega) (by omega))) hCd h2 h1
        all_goals (rw [hF' _ (by omega) (by omega) (by omega) (by omega)]; assumption)
      · refine mz_go [21] 20 ?_
        simp only [mz_r0, mk_lit, mk_fin, mk_cat, mk_fit, mk_nar, mk_cls, mk_ty, mk_isr, List.mem_cons, List.not_mem_nil, or_false, or_true, false_or, true_or, Nat.reduceEqDiff, Nat.reduceAdd, Nat.reduceSub, Nat.reduceLT, Nat.reduceLeDiff, ↓reduceIte, if_true, if_false, List.getElem?_cons_zero, List.getElem?_cons_succ, List.set_cons_zero, List.set_cons_succ, List.length_cons, List.length_nil, mz_s1, mz_s2, mz_cl, true_and, and_true, false_and, and_false, List.append_nil, mk_b0, mk_b1, mk_b2, mk_bn, Value.int.injEq, Option.toList_some, Option.toList_none, List.cons_append, List.nil_append, Classical.not_not, Option.some.injEq, reduceCtorEq, ne_eq, not_true_eq_false, not_false_eq_true, false_implies, true_implies, ev_51, ev_41, ev_79, ft_0_6, fn_0_6, ft_0_1, fn_0_1, ev_37, ev_76, ft_0_0, fn_0_0, ft_0_3, fn_0_3, mz_rl d_Office_gang_18, mz_rl d_Office_gang_31, mz_rl d_Office_gang_32, mz_rl d_Office_gang_35, mz_rl d_Office_gang_36, mz_rl d_Office_gang_39, mz_rl d_Office_gang_40, mz_rl d_Office_gang_41, mz_rl d_Office_gang_42, mz_rl d_Office_gang_45, mz_rl d_Office_gang_46, mz_rl d_Office_gang_47, mz_rl d_Office_gang_48, mz_rl d_Office_gang_49, mz_rl d_Office_gang_52, j_Office_gang_18, nF_0, eq_false hz]
        exact mz_throw hfl (by decide) (by simp only [d_Office_gang]) (by simp only [d_Office_gang, Nat.reduceAdd]) (by simp only [d_Office_gang, Nat.reduceAdd]) (by simp only [d_Office_gang, Nat.reduceAdd]) (by simp only [d_Office_gang, Nat.reduceAdd]) th_s_158 th_w_113 (by decide +kernel) th_fits (by decide) (by decide) (by decide) (by decide) ⟨rfl, rfl, rfl, fun q => hz q.2.2⟩
    · refine mz_go [21] 20 ?_
      simp only [mz_r0, mk_lit, mk_fin, mk_cat, mk_fit, mk_nar, mk_cls, mk_ty, mk_isr, List.mem_cons, List.not_mem_nil, or_false, or_true, false_or, true_or, Nat.reduceEqDiff, Nat.reduceAdd, Nat.reduceSub, Nat.reduceLT, Nat.reduceLeDiff, ↓reduceIte, if_true, if_false, List.getElem?_cons_zero, List.getElem?_cons_succ, List.set_cons_zero, List.set_cons_succ, List.length_cons, List.length_nil, mz_s1, mz_s2, mz_cl, true_and, and_true, false_and, and_false, List.append_nil, mk_b0, mk_b1, mk_b2, mk_bn, Value.int.injEq, Option.toList_some, Option.toList_none, List.cons_append, List.nil_append, Classical.not_not, Option.some.injEq, reduceCtorEq, ne_eq, not_true_eq_false, not_false_eq_true, false_implies, true_implies, ev_49, ev_37, mz_rl d_Office_gang_11, mz_rl d_Office_gang_14, mz_rl d_Office_gang_15, j_Office_gang_11, nF_0, eq_false hy]
      exact mz_throw hfl (by decide) (by simp only [d_Office_gang]) (by simp only [d_Office_gang, Nat.reduceAdd]) (by simp only [d_Office_gang, Nat.reduceAdd]) (by simp only [d_Office_gang, Nat.reduceAdd]) (by simp only [d_Office_gang, Nat.reduceAdd]) th_s_158 th_w_113 (by decide +kernel) th_fits (by decide) (by decide) (by decide) (by decide) ⟨rfl, rfl, rfl, fun q => hy q.2.1⟩
  · refine mz_go [21] 20 ?_
    simp only [mz_r0, mk_lit, mk_fin, mk_cat, mk_fit, mk_nar, mk_cls, mk_ty, mk_isr, List.mem_cons, List.not_mem_nil, or_false, or_true, false_or, true_or, Nat.reduceEqDiff, Nat.reduceAdd, Nat.reduceSub, Nat.reduceLT, Nat.reduceLeDiff, ↓reduceIte, if_true, if_false, List.getElem?_cons_zero, List.getElem?_cons_succ, List.set_cons_zero, List.set_cons_succ, List.length_cons, List.length_nil, mz_s1, mz_s2, mz_cl, true_and, and_true, false_and, and_false, List.append_nil, mk_b0, mk_b1, mk_b2, mk_bn, Value.int.injEq, Option.toList_some, Option.toList_none, List.cons_append, List.nil_append, Classical.not_not, Option.some.injEq, reduceCtorEq, ne_eq, not_true_eq_false, not_false_eq_true, false_implies, true_implies, ev_49, ev_37, mz_rl d_Office_gang_4, mz_rl d_Office_gang_7, mz_rl d_Office_gang_8, j_Office_gang_4, nF_0, eq_false hx]
    exact mz_throw hfl (by decide) (by simp only [d_Office_gang]) (by simp only [d_Office_gang, Nat.reduceAdd]) (by simp only [d_Office_gang, Nat.reduceAdd]) (by simp only [d_Office_gang, Nat.reduceAdd]) (by simp only [d_Office_gang, Nat.reduceAdd]) th_s_158 th_w_113 (by decide +kernel) th_fits (by decide) (by decide) (by decide) (by decide) ⟨rfl, rfl, rfl, fun q => hx q.1⟩
set_option maxRecDepth 20000 in
theorem x_Office_multiply (G : mz_G) (hfl : G.1.flags = pinnedFlags ++ [noTraceFlag]) (n : Nat) (f : mz_H) {x y z w : Int32} {K : Nat} {sz : Nat → Nat} {cd s : Nat → Nat → Nat} (h : CI f n K sz cd s) :
    mz_X G mk_P 0 false b_Office_multiply 5 (some .int) (r_Office_multiply 1 6) (muP f n K sz cd s x y z w) (fun ec n' f' => ec = "java/lang/IllegalArgumentException" ∧ n' = n ∧ f' = f ∧ ¬ okMu x y z w) 0 [some (.ref 0), some (.int x), some (.int y), some (.int z), some (.int w)] [] 0 0 n f := by
  obtain ⟨lx, h1, h2, h3, h4, h5, h6, h7⟩ := id h
  have ho := h3.1
  have hq := h3.2.1
  have hb := h3.2.2.1
  have hs8 : s8 sz = K := h6.2
  obtain ⟨c1, c2, c3, c4, c5, c6, c7, c8, c9, c10, c11, c12, c13, c14, c15⟩ := id h3
  refine mz_go [1] 20 ?_
  simp only [mz_r0, mk_lit, mk_fin, mk_cat, mk_fit, mk_nar, mk_cls, mk_ty, mk_isr, List.mem_cons, List.not_mem_nil, or_false, or_true, false_or, true_or, Nat.reduceEqDiff, Nat.reduceAdd, Nat.reduceSub, Nat.reduceLT, Nat.reduceLeDiff, ↓reduceIte, if_true, if_false, List.getElem?_cons_zero, List.getElem?_cons_succ, List.set_cons_zero, List.set_cons_succ, List.length_cons, List.length_nil, mz_s1, mz_s2, mz_cl, true_and, and_true, false_and, and_false, List.append_nil, mk_b0, mk_b1, mk_b2, mk_bn, Value.int.injEq, Option.toList_some, Option.toList_none, List.cons_append, List.nil_append, Classical.not_not, Option.some.injEq, reduceCtorEq, ne_eq, not_true_eq_false, not_false_eq_true, false_implies, true_implies, ev_37, mz_rl d_Office_multiply_0, nF_0]
  refine mz_callS (by simp only [d_Office_multiply_1, Nat.reduceAdd]) g_0_62 rfl (fun _ _ h => h) (c_Office_isDeck G mk_P n f x) (by decide) (Nat.le_of_ble_eq_true rfl) rfl ?_; intro v_ n_ f_ h_; obtain ⟨rfl, hn_, hf_⟩ := h_; replace hn_ := hn_.symm; replace hf_ := hf_.symm; subst hn_; subst hf_
  by_cases hx : 0 ≤ x.toInt ∧ x.toInt < 8
  · refine mz_go [8] 20 ?_
    simp only [mz_r0, mk_lit, mk_fin, mk_cat, mk_fit, mk_nar, mk_cls, mk_ty, mk_isr, List.mem_cons, List.not_mem_nil, or_false, or_true, false_or, true_or, Nat.reduceEqDiff, Nat.reduceAdd, Nat.reduceSub, Nat.reduceLT, Nat.reduceLeDiff, ↓reduceIte, if_true, if_false, List.getElem?_cons_zero, List.getElem?_cons_succ, List.set_cons_zero, List.set_cons_succ, List.length_cons, List.length_nil, mz_s1, mz_s2, mz_cl, true_and, and_true, false_and, and_false, List.append_nil, mk_b0, mk_b1, mk_b2, mk_bn, Value.int.injEq, Option.toList_some, Option.toList_none, List.cons_append, List.nil_append, Classical.not_not, Option.some.injEq, reduceCtorEq, ne_eq, not_true_eq_false, not_false_eq_true, false_implies, true_implies, ev_49, ev_37, mz_rl d_Office_multiply_4, mz_rl d_Office_multiply_7, mz_rl d_Office_multiply_29, j_Office_multiply_4, nF_0, eq_true hx]
    refine mz_callS (by simp only [d_Office_multiply_8, Nat.reduceAdd]) g_0_164 rfl (fun _ _ h => h) (c_Office_isFactorField G mk_P n f y) (by decide) (Nat.le_of_ble_eq_true rfl) rfl ?_; intro v_ n_ f_ h_; obtain ⟨rfl, hn_, hf_⟩ := h_; replace hn_ := hn_.symm; replace hf_ := hf_.symm; subst hn_; subst hf_
    by_cases hy : 0 ≤ y.toInt ∧ y.toInt < 96 ∧ y.toInt % 16 + y.toInt / 16 < 16
    · refine mz_go [15] 20 ?_
      simp only [mz_r0, mk_lit, mk_fin, mk_cat, mk_fit, mk_nar, mk_cls, mk_ty, mk_isr, List.mem_cons, List.not_mem_nil, or_false, or_true, false_or, true_or, Nat.reduceEqDiff, Nat.reduceAdd, Nat.reduceSub, Nat.reduceLT, Nat.reduceLeDiff, ↓reduceIte, if_true, if_false, List.getElem?_cons_zero, List.getElem?_cons_succ, List.set_cons_zero, List.set_cons_succ, List.length_cons, List.length_nil, mz_s1, mz_s2, mz_cl, true_and, and_true, false_and, and_false, List.append_nil, mk_b0, mk_b1, mk_b2, mk_bn, Value.int.injEq, Option.toList_some, Option.toList_none, List.cons_append, List.nil_append, Classical.not_not, Option.some.injEq, reduceCtorEq, ne_eq, not_true_eq_false, not_false_eq_true, false_implies, true_implies, ev_49, ev_37, mz_rl d_Office_multiply_11, mz_rl d_Office_multiply_14, mz_rl d_Office_multiply_29, j_Office_multiply_11, nF_0, eq_true hy]
      refine mz_callS (by simp only [d_Office_multiply_15, Nat.reduceAdd]) g_0_164 rfl (fun _ _ h => h) (c_Office_isFactorField G mk_P n f z) (by decide) (Nat.le_of_ble_eq_true rfl) rfl ?_; intro v_ n_ f_ h_; obtain ⟨rfl, hn_, hf_⟩ := h_; replace hn_ := hn_.symm; replace hf_ := hf_.symm; subst hn_; subst hf_
      by_cases hz : 0 ≤ z.toInt ∧ z.toInt < 96 ∧ z.toInt % 16 + z.toInt / 16 < 16
      · refine mz_go [23] 20 ?_
        simp only [mz_r0, mk_lit, mk_fin, mk_cat, mk_fit, mk_nar, mk_cls, mk_ty, mk_isr, List.mem_cons, List.not_mem_nil, or_false, or_true, false_or, true_or, Nat.reduceEqDiff, Nat.reduceAdd, Nat.reduceSub, Nat.reduceLT, Nat.reduceLeDiff, ↓reduceIte, if_true, if_false, List.getElem?_cons_zero, List.getElem?_cons_succ, List.set_cons_zero, List.set_cons_succ, List.length_cons, List.length_nil, mz_s1, mz_s2, mz_cl, true_and, and_true, false_and, and_false, List.append_nil, mk_b0, mk_b1, mk_b2, mk_bn, Value.int.injEq, Option.toList_some, Option.toList_none, List.cons_append, List.nil_append, Classical.not_not, Option.some.injEq, reduceCtorEq, ne_eq, not_true_eq_false, not_false_eq_true, false_implies, true_implies, ev_49, ev_36, mz_rl d_Office_multiply_18, mz_rl d_Office_multiply_21, mz_rl d_Office_multiply_29, j_Office_multiply_18, nF_0, eq_true hz]
        refine mz_callS (by simp only [d_Office_multiply_23, Nat.reduceAdd]) g_0_164 rfl (fun _ _ h => h) (c_Office_isFactorField G mk_P n f w) (by decide) (Nat.le_of_ble_eq_true rfl) rfl ?_; intro v_ n_ f_ h_; obtain ⟨rfl, hn_, hf_⟩ := h_; replace hn_ := hn_.symm; replace hf_ := hf_.symm; subst hn_; subst hf_
        by_cases hw : 0 ≤ w.toInt ∧ w.toInt < 96 ∧ w.toInt % 16 + w.toInt / 16 < 16
        · obtain ⟨i, hi, rfl⟩ := mk_nat (x := x) (N := 8) hx.1 hx.2 (by decide)
          obtain ⟨j, hj, rfl⟩ := mk_nat (x := y) (N := 96) hy.1 hy.2.1 (by decide)
          obtain ⟨k, hk, rfl⟩ := mk_nat (x := z) (N := 96) hz.1 hz.2.1 (by decide)
          obtain ⟨l, hl, rfl⟩ := mk_nat (x := w) (N := 96) hw.1 hw.2.1 (by decide)
          have fj : facOk j := by have := hy.2.2; rw [mk_nti (show j < 2 ^ 31 by omega)] at this; unfold facOk; omega
          have fk : facOk k := by have := hz.2.2; rw [mk_nti (show k < 2 ^ 31 by omega)] at this; unfold facOk; omega
          have fl : facOk l := by have := hw.2.2; rw [mk_nti (show l < 2 ^ 31 by omega)] at this; unfold facOk; omega
          obtain ⟨g, e1, e2, e3⟩ := h6.1 i hi
          obtain ⟨u4, w4, k4⟩ := c5
          have cj : (nI j).toNatClampNeg = j := nI_clamp (by omega)
          have ck : (nI k).toNatClampNeg = k := nI_clamp (by omega)
          have cl : (nI l).toNatClampNeg = l := nI_clamp (by omega)
          have hsi := s8_le sz hi
          refine mz_go [42] 20 ?_
          simp only [mz_r0, mk_lit, mk_fin, mk_cat, mk_fit, mk_nar, mk_cls, mk_ty, mk_isr, List.mem_cons, List.not_mem_nil, or_false, or_true, false_or, true_or, Nat.reduceEqDiff, Nat.reduceAdd, Nat.reduceSub, Nat.reduceLT, Nat.reduceLeDiff, ↓reduceIte, if_true, if_false, List.getElem?_cons_zero, List.getElem?_cons_succ, List.set_cons_zero, List.set_cons_succ, List.length_cons, List.length_nil, mz_s1, mz_s2, mz_cl, true_and, and_true, false_and, and_false, List.append_nil, mk_b0, mk_b1, mk_b2, mk_bn, Value.int.injEq, Option.toList_some, Option.toList_none, List.cons_append, List.nil_append, Classical.not_not, Option.some.injEq, reduceCtorEq, ne_eq, not_true_eq_false, not_false_eq_true, false_implies, true_implies, ev_51, ev_36, ev_37, mz_rl d_Office_multiply_26, mz_rl d_Office_multiply_29, mz_rl d_Office_multiply_39, mz_rl d_Office_multiply_41, j_Office_multiply_26, nF_0, eq_true hw]
          refine mz_callS (by simp only [d_Office_multiply_42, Nat.reduceAdd]) g_0_167 rfl (fun _ _ h => h) (c_Office_haveCommonColumn G mk_P n f (x := l) (y := j) hl hj) (by decide) (Nat.le_of_ble_eq_true rfl) rfl ?_; intro v_ n_ f_ h_; obtain ⟨rfl, hn_, hf_⟩ := h_; replace hn_ := hn_.symm; replace hf_ := hf_.symm; subst hn_; subst hf_
          by_cases hc : l % 16 < j % 16 + (j / 16 + 1) ∧ j % 16 < l % 16 + (l / 16 + 1)
          · refine mz_go [57] 20 ?_
            simp only [mz_r0, mk_lit, mk_fin, mk_cat, mk_fit, mk_nar, mk_cls, mk_ty, mk_isr, List.mem_cons, List.not_mem_nil, or_false, or_true, false_or, true_or, Nat.reduceEqDiff, Nat.reduceAdd, Nat.reduceSub, Nat.reduceLT, Nat.reduceLeDiff, ↓reduceIte, if_true, if_false, List.getElem?_cons_zero, List.getElem?_cons_succ, List.set_cons_zero, List.set_cons_succ, List.length_cons, List.length_nil, mz_s1, mz_s2, mz_cl, true_and, and_true, false_and, and_false, List.append_nil, mk_b0, mk_b1, mk_b2, mk_bn, Value.int.injEq, Option.toList_some, Option.toList_none, List.cons_append, List.nil_append, Classical.not_not, Option.some.injEq, reduceCtorEq, ne_eq, not_true_eq_false, not_false_eq_true, false_implies, true_implies, ev_51, ev_36, ev_37, mz_rl d_Office_multiply_45, mz_rl d_Office_multiply_48, mz_rl d_Office_multiply_50, mz_rl d_Office_multiply_51, j_Office_multiply_45, nF_0, eq_true hc]
            exact mz_throw hfl (by decide) (by simp only [d_Office_multiply]) (by simp only [d_Office_multiply, Nat.reduceAdd]) (by simp only [d_Office_multiply, Nat.reduceAdd]) (by simp only [d_Office_multiply, Nat.reduceAdd]) (by simp only [d_Office_multiply, Nat.reduceAdd]) th_s_170 th_w_113 (by decide +kernel) th_fits (by decide) (by decide) (by decide) (by decide) ⟨rfl, rfl, rfl, fun q => q.2.2.2.2.1 (by rw [cj, cl]; exact hc)⟩
          · refine mz_go [51] 20 ?_
            simp only [mz_r0, mk_lit, mk_fin, mk_cat, mk_fit, mk_nar, mk_cls, mk_ty, mk_isr, List.mem_cons, List.not_mem_nil, or_false, or_true, false_or, true_or, Nat.reduceEqDiff, Nat.reduceAdd, Nat.reduceSub, Nat.reduceLT, Nat.reduceLeDiff, ↓reduceIte, if_true, if_false, List.getElem?_cons_zero, List.getElem?_cons_succ, List.set_cons_zero, List.set_cons_succ, List.length_cons, List.length_nil, mz_s1, mz_s2, mz_cl, true_and, and_true, false_and, and_false, List.append_nil, mk_b0, mk_b1, mk_b2, mk_bn, Value.int.injEq, Option.toList_some, Option.toList_none, List.cons_append, List.nil_append, Classical.not_not, Option.some.injEq, reduceCtorEq, ne_eq, not_true_eq_false, not_false_eq_true, false_implies, true_implies, ev_51, ev_36, ev_37, mz_rl d_Office_multiply_45, mz_rl d_Office_multiply_48, mz_rl d_Office_multiply_50, mz_rl d_Office_multiply_57, j_Office_multiply_45, nF_0, eq_false hc]
            refine mz_callS (by simp only [d_Office_multiply_51, Nat.reduceAdd]) g_0_167 rfl (fun _ _ h => h) (c_Office_haveCommonColumn G mk_P n f (x := l) (y := k) hl hk) (by decide) (Nat.le_of_ble_eq_true rfl) rfl ?_; intro v_ n_ f_ h_; obtain ⟨rfl, hn_, hf_⟩ := h_; replace hn_ := hn_.symm; replace hf_ := hf_.symm; subst hn_; subst hf_
            by_cases hd : l % 16 < k % 16 + (k / 16 + 1) ∧ k % 16 < l % 16 + (l / 16 + 1)
            · refine mz_go [57] 20 ?_
              simp only [mz_r0, mk_lit, mk_fin, mk_cat, mk_fit, mk_nar, mk_cls, mk_ty, mk_isr, List.mem_cons, List.not_mem_nil, or_false, or_true, false_or, true_or, Nat.reduceEqDiff, Nat.reduceAdd, Nat.reduceSub, Nat.reduceLT, Nat.reduceLeDiff, ↓reduceIte, if_true, if_false, List.getElem?_cons_zero, List.getElem?_cons_succ, List.set_cons_zero, List.set_cons_succ, List.length_cons, List.length_nil, mz_s1, mz_s2, mz_cl, true_and, and_true, false_and, and_false, List.append_nil, mk_b0, mk_b1, mk_b2, mk_bn, Value.int.injEq, Option.toList_some, Option.toList_none, List.cons_append, List.nil_append, Classical.not_not, Option.some.injEq, reduceCtorEq, ne_eq, not_true_eq_false, not_false_eq_true, false_implies, true_implies, ev_49, ev_41, ev_79, ft_0_0, fn_0_0, ev_37, ev_76, ev_36, ft_0_3, fn_0_3, mz_rl d_Office_multiply_54, mz_rl d_Office_multiply_67, mz_rl d_Office_multiply_68, mz_rl d_Office_multiply_71, mz_rl d_Office_multiply_72, mz_rl d_Office_multiply_73, mz_rl d_Office_multiply_74, mz_rl d_Office_multiply_75, mz_rl d_Office_multiply_77, mz_rl d_Office_multiply_78, mz_rl d_Office_multiply_81, j_Office_multiply_54, nF_0, eq_true hd]
              exact mz_throw hfl (by decide) (by simp only [d_Office_multiply]) (by simp only [d_Office_multiply, Nat.reduceAdd]) (by simp only [d_Office_multiply, Nat.reduceAdd]) (by simp only [d_Office_multiply, Nat.reduceAdd]) (by simp only [d_Office_multiply, Nat.reduceAdd]) th_s_170 th_w_113 (by decide +kernel) th_fits (by decide) (by decide) (by decide) (by decide) ⟨rfl, rfl, rfl, fun q => q.2.2.2.2.2 (by rw [ck, cl]; exact hd)⟩
            · refine mz_go [81] 40 ?_
              simp only [mz_r0, mk_lit, mk_fin, mk_cat, mk_fit, mk_nar, mk_cls, mk_ty, mk_isr, List.mem_cons, List.not_mem_nil, or_false, or_true, false_or, true_or, Nat.reduceEqDiff, Nat.reduceAdd, Nat.reduceSub, Nat.reduceLT, Nat.reduceLeDiff, ↓reduceIte, if_true, if_false, List.getElem?_cons_zero, List.getElem?_cons_succ, List.set_cons_zero, List.set_cons_succ, List.length_cons, List.length_nil, mz_s1, mz_s2, mz_cl, true_and, and_true, false_and, and_false, List.append_nil, mk_b0, mk_b1, mk_b2, mk_bn, Value.int.injEq, Option.toList_some, Option.toList_none, List.cons_append, List.nil_append, Classical.not_not, Option.some.injEq, reduceCtorEq, ne_eq, not_true_eq_false, not_false_eq_true, false_implies, true_implies, ev_49, ev_41, ev_79, ft_0_0, fn_0_0, ev_37, ev_76, ev_36, ft_0_3, fn_0_3, mz_rl d_Office_multiply_54, mz_rl d_Office_multiply_57, mz_rl d_Office_multiply_67, mz_rl d_Office_multiply_68, mz_rl d_Office_multiply_71, mz_rl d_Office_multiply_72, mz_rl d_Office_multiply_73, mz_rl d_Office_multiply_74, mz_rl d_Office_multiply_75, mz_rl d_Office_multiply_77, mz_rl d_Office_multiply_78, j_Office_multiply_54, nF_0, eq_false hd, ho, hq, vp_in_nI hi (show 8 < 2 ^ 31 by decide), nI_clamp (show i < 2 ^ 31 by omega), deckQ_at hi, va_rf]
              refine mz_callS (by simp only [d_Office_multiply_81, Nat.reduceAdd]) g_0_172 rfl (fun _ _ h => h) (c_Multiplier_goThrough G n f c15 e1 e2 k4 (by omega) (by omega) (by omega) h7 e3 h2 fj fk fl) (by decide) (Nat.le_of_ble_eq_true rfl) rfl ?_; rintro v_ n_ f_ ⟨rfl, rfl, hF, F4, hCd⟩
              refine mz_go [] 20 ?_
              simp only [mz_r0, mk_lit, mk_fin, mk_cat, mk_fit, mk_nar, mk_cls, mk_ty, mk_isr, List.mem_cons, List.not_mem_nil, or_false, or_true, false_or, true_or, Nat.reduceEqDiff, Nat.reduceAdd, Nat.reduceSub, Nat.reduceLT, Nat.reduceLeDiff, ↓reduceIte, if_true, if_false, List.getElem?_cons_zero, List.getElem?_cons_succ, List.set_cons_zero, List.set_cons_succ, List.length_cons, List.length_nil, mz_s1, mz_s2, mz_cl, true_and, and_true, false_and, and_false, List.append_nil, mk_b0, mk_b1, mk_b2, mk_bn, Value.int.injEq, Option.toList_some, Option.toList_none, List.cons_append, List.nil_append, Classical.not_not, Option.some.injEq, reduceCtorEq, ne_eq, not_true_eq_false, not_false_eq_true, false_implies, true_implies, ev_64, mz_rl d_Office_multiply_84, nF_0]
              have hF' : ∀ q, (q < 172 ∨ q = 1000000000001) → q ≠ 4 → f_ q = f q := fun q z1 z2 => hF q z1 (by simp; omega)
              suffices hCI : CI f_ n_ K sz cd (muF j k l (cd i) (sz i) 0 s).2.2 ∧ FrB f f_ from ⟨i, j, k, l, _, hi, rfl, fj, rfl, fk, rfl, fl, rfl, ⟨hx, hy, hz, hw, by rw [cj, cl]; exact hc, by rw [ck, cl]; exact hd⟩, rfl, rfl, rfl, hCI.1, hCI.2, MU_l F4 (hF' 5 (by omega) (by omega)) (hF' 8 (by omega) (by omega))⟩
              refine CI_mk h3 h4 h5 ?_ ⟨_, _, F4⟩ ?_ ?_ ?_ ?_ (Dk0_eq c10 (hF' _ (by omega) (by omega)) (hF' _ (by omega) (by omega))) (Dk0_eq c11 (hF' _ (by omega) (by omega)) (hF' _ (by omega) (by omega))) ?_ ?_ (fun q hq => hF' q (by omega) (by omega)) (CD_eq h6 (fun q z1 z2 => hF' q (by omega) (by omega))) hCd h2 h1
              all_goals (rw [hF' _ (by omega) (by omega)]; assumption)
        · refine mz_go [29] 20 ?_
          simp only [mz_r0, mk_lit, mk_fin, mk_cat, mk_fit, mk_nar, mk_cls, mk_ty, mk_isr, List.mem_cons, List.not_mem_nil, or_false, or_true, false_or, true_or, Nat.reduceEqDiff, Nat.reduceAdd, Nat.reduceSub, Nat.reduceLT, Nat.reduceLeDiff, ↓reduceIte, if_true, if_false, List.getElem?_cons_zero, List.getElem?_cons_succ, List.set_cons_zero, List.set_cons_succ, List.length_cons, List.length_nil, mz_s1, mz_s2, mz_cl, true_and, and_true, false_and, and_false, List.append_nil, mk_b0, mk_b1, mk_b2, mk_bn, Value.int.injEq, Option.toList_some, Option.toList_none, List.cons_append, List.nil_append, Classical.not_not, Option.some.injEq, reduceCtorEq, ne_eq, not_true_eq_false, not_false_eq_true, false_implies, true_implies, ev_51, ev_36, ev_37, mz_rl d_Office_multiply_26, mz_rl d_Office_multiply_39, mz_rl d_Office_multiply_41, mz_rl d_Office_multiply_42, j_Office_multiply_26, nF_0, eq_false hw]
          exact mz_throw hfl (by decide) (by simp only [d_Office_multiply]) (by simp only [d_Office_multiply, Nat.reduceAdd]) (by simp only [d_Office_multiply, Nat.reduceAdd]) (by simp only [d_Office_multiply, Nat.reduceAdd]) (by simp only [d_Office_multiply, Nat.reduceAdd]) th_s_123 th_w_113 (by decide +kernel) th_fits (by decide) (by decide) (by decide) (by decide) ⟨rfl, rfl, rfl, fun q => hw q.2.2.2.1⟩
      · refine mz_go [29] 20 ?_
        simp only [mz_r0, mk_lit, mk_fin, mk_cat, mk_fit, mk_nar, mk_cls, mk_ty, mk_isr, List.mem_cons, List.not_mem_nil, or_false, or_true, false_or, true_or, Nat.reduceEqDiff, Nat.reduceAdd, Nat.reduceSub, Nat.reduceLT, Nat.reduceLeDiff, ↓reduceIte, if_true, if_false, List.getElem?_cons_zero, List.getElem?_cons_succ, List.set_cons_zero, List.set_cons_succ, List.length_cons, List.length_nil, mz_s1, mz_s2, mz_cl, true_and, and_true, false_and, and_false, List.append_nil, mk_b0, mk_b1, mk_b2, mk_bn, Value.int.injEq, Option.toList_some, Option.toList_none, List.cons_append, List.nil_append, Classical.not_not, Option.some.injEq, reduceCtorEq, ne_eq, not_true_eq_false, not_false_eq_true, false_implies, true_implies, ev_49, ev_36, mz_rl d_Office_multiply_18, mz_rl d_Office_multiply_21, mz_rl d_Office_multiply_23, j_Office_multiply_18, nF_0, eq_false hz]
        exact mz_throw hfl (by decide) (by simp only [d_Office_multiply]) (by simp only [d_Office_multiply, Nat.reduceAdd]) (by simp only [d_Office_multiply, Nat.reduceAdd]) (by simp only [d_Office_multiply, Nat.reduceAdd]) (by simp only [d_Office_multiply, Nat.reduceAdd]) th_s_123 th_w_113 (by decide +kernel) th_fits (by decide) (by decide) (by decide) (by decide) ⟨rfl, rfl, rfl, fun q => hz q.2.2.1⟩
    · refine mz_go [29] 20 ?_
      simp only [mz_r0, mk_lit, mk_fin, mk_cat, mk_fit, mk_nar, mk_cls, mk_ty, mk_isr, List.mem_cons, List.not_mem_nil, or_false, or_true, false_or, true_or, Nat.reduceEqDiff, Nat.reduceAdd, Nat.reduceSub, Nat.reduceLT, Nat.reduceLeDiff, ↓reduceIte, if_true, if_false, List.getElem?_cons_zero, List.getElem?_cons_succ, List.set_cons_zero, List.set_cons_succ, List.length_cons, List.length_nil, mz_s1, mz_s2, mz_cl, true_and, and_true, false_and, and_false, List.append_nil, mk_b0, mk_b1, mk_b2, mk_bn, Value.int.injEq, Option.toList_some, Option.toList_none, List.cons_append, List.nil_append, Classical.not_not, Option.some.injEq, reduceCtorEq, ne_eq, not_true_eq_false, not_false_eq_true, false_implies, true_implies, ev_49, ev_37, mz_rl d_Office_multiply_11, mz_rl d_Office_multiply_14, mz_rl d_Office_multiply_15, j_Office_multiply_11, nF_0, eq_false hy]
      exact mz_throw hfl (by decide) (by simp only [d_Office_multiply]) (by simp only [d_Office_multiply, Nat.reduceAdd]) (by simp only [d_Office_multiply, Nat.reduceAdd]) (by simp only [d_Office_multiply, Nat.reduceAdd]) (by simp only [d_Office_multiply, Nat.reduceAdd]) th_s_123 th_w_113 (by decide +kernel) th_fits (by decide) (by decide) (by decide) (by decide) ⟨rfl, rfl, rfl, fun q => hy q.2.1⟩
  · refine mz_go [29] 20 ?_
    simp only [mz_r0, mk_lit, mk_fin, mk_cat, mk_fit, mk_nar, mk_cls, mk_ty, mk_isr, List.mem_cons, List.not_mem_nil, or_false, or_true, false_or, true_or, Nat.reduceEqDiff, Nat.reduceAdd, Nat.reduceSub, Nat.reduceLT, Nat.reduceLeDiff, ↓reduceIte, if_true, if_false, List.getElem?_cons_zero, List.getElem?_cons_succ, List.set_cons_zero, List.set_cons_succ, List.length_cons, List.length_nil, mz_s1, mz_s2, mz_cl, true_and, and_true, false_and, and_false, List.append_nil, mk_b0, mk_b1, mk_b2, mk_bn, Value.int.injEq, Option.toList_some, Option.toList_none, List.cons_append, List.nil_append, Classical.not_not, Option.some.injEq, reduceCtorEq, ne_eq, not_true_eq_false, not_false_eq_true, false_implies, true_implies, ev_49, ev_37, mz_rl d_Office_multiply_4, mz_rl d_Office_multiply_7, mz_rl d_Office_multiply_8, j_Office_multiply_4, nF_0, eq_false hx]
    exact mz_throw hfl (by decide) (by simp only [d_Office_multiply]) (by simp only [d_Office_multiply, Nat.reduceAdd]) (by simp only [d_Office_multiply, Nat.reduceAdd]) (by simp only [d_Office_multiply, Nat.reduceAdd]) (by simp only [d_Office_multiply, Nat.reduceAdd]) th_s_123 th_w_113 (by decide +kernel) th_fits (by decide) (by decide) (by decide) (by decide) ⟨rfl, rfl, rfl, fun q => hx q.1⟩
/-- tabulate -/
def taP (f : mz_H) (n K : Nat) (sz : Nat → Nat) (cd s : Nat → Nat → Nat) (B : bS) (u : tT) (x y : Int32) (v : Option Value) (n' : Nat) (f' : mz_H) : Prop := ∃ b i R, b < 4 ∧ x = nI b ∧ i < 8 ∧ y = nI i ∧ R = tbF (B.2.1 b) (B.2.2.1 b) (B.2.2.2 b) (B.1 b) (cd i) s (sz i) u ∧ v = some (.int (nI R.2.1)) ∧ n' = n ∧ CI f' n K sz cd s ∧ FrY f f' ∧ MU f f' (lg_U R.1 R.2.1) ∧ TT f' R.2.2
theorem Tb_u2 {f : mz_H} {x : Nat} {u : tT} (h : Tb f x) (hX : TT f u) : Tb f u.2.1 := by
  have e1 := h.2.2.1.1
  rw [hX.2.1] at e1
  have e2 : nI u.2.1 = nI x := congrArg (fun c : mz_C => match c with
    | .inr (_, [_, .int y]) => y
    | _ => 0) e1
  have := hX.2.2.2.1
  have := h.2.2.2.1
  have e3 : u.2.1 = x := (nI_eq (by omega) (by omega)).mp e2
  rw [e3]; exact h
set_option maxRecDepth 20000 in
theorem x_Office_tabulate (G : mz_G) (hfl : G.1.flags = pinnedFlags ++ [noTraceFlag]) (n : Nat) (f : mz_H) {x y : Int32} {K : Nat} {sz : Nat → Nat} {cd s : Nat → Nat → Nat} (h : CI f n K sz cd s) {B : bS} (hB : BX f B) (hk : bOk B) {u : tT} (hX : TT f u) :
    mz_X G mk_P 0 false b_Office_tabulate 3 (some .int) (r_Office_tabulate 1 6) (taP f n K sz cd s B u x y) (fun ec n' f' => ec = "java/lang/IllegalArgumentException" ∧ n' = n ∧ f' = f ∧ ¬ okTa x y) 0 [some (.ref 0), some (.int x), some (.int y)] [] 0 0 n f := by
  obtain ⟨lx, h1, h2, h3, h4, h5, h6, h7⟩ := id h
  have ho := h3.1
  have hq := h3.2.1
  have hb := h3.2.2.1
  have hs8 : s8 sz = K := h6.2
  obtain ⟨c1, c2, c3, c4, c5, c6, c7, c8, c9, c10, c11, c12, c13, c14, c15⟩ := id h3
  refine mz_go [1] 20 ?_
  simp only [mz_r0, mk_lit, mk_fin, mk_cat, mk_fit, mk_nar, mk_cls, mk_ty, mk_isr, List.mem_cons, List.not_mem_nil, or_false, or_true, false_or, true_or, Nat.reduceEqDiff, Nat.reduceAdd, Nat.reduceSub, Nat.reduceLT, Nat.reduceLeDiff, ↓reduceIte, if_true, if_false, List.getElem?_cons_zero, List.getElem?_cons_succ, List.set_cons_zero, List.set_cons_succ, List.length_cons, List.length_nil, mz_s1, mz_s2, mz_cl, true_and, and_true, false_and, and_false, List.append_nil, mk_b0, mk_b1, mk_b2, mk_bn, Value.int.injEq, Option.toList_some, Option.toList_none, List.cons_append, List.nil_append, Classical.not_not, Option.some.injEq, reduceCtorEq, ne_eq, not_true_eq_false, not_false_eq_true, false_implies, true_implies, ev_37, mz_rl d_Office_tabulate_0, nF_0]
  refine mz_callS (by simp only [d_Office_tabulate_1, Nat.reduceAdd]) g_0_84 rfl (fun _ _ h => h) (c_Office_isBoard G mk_P n f x) (by decide) (Nat.le_of_ble_eq_true rfl) rfl ?_; intro v_ n_ f_ h_; obtain ⟨rfl, hn_, hf_⟩ := h_; replace hn_ := hn_.symm; replace hf_ := hf_.symm; subst hn_; subst hf_
  by_cases hx : 0 ≤ x.toInt ∧ x.toInt < 4
  · refine mz_go [8] 20 ?_
    simp only [mz_r0, mk_lit, mk_fin, mk_cat, mk_fit, mk_nar, mk_cls, mk_ty, mk_isr, List.mem_cons, List.not_mem_nil, or_false, or_true, false_or, true_or, Nat.reduceEqDiff, Nat.reduceAdd, Nat.reduceSub, Nat.reduceLT, Nat.reduceLeDiff, ↓reduceIte, if_true, if_false, List.getElem?_cons_zero, List.getElem?_cons_succ, List.set_cons_zero, List.set_cons_succ, List.length_cons, List.length_nil, mz_s1, mz_s2, mz_cl, true_and, and_true, false_and, and_false, List.append_nil, mk_b0, mk_b1, mk_b2, mk_bn, Value.int.injEq, Option.toList_some, Option.toList_none, List.cons_append, List.nil_append, Classical.not_not, Option.some.injEq, reduceCtorEq, ne_eq, not_true_eq_false, not_false_eq_true, false_implies, true_implies, ev_49, ev_37, mz_rl d_Office_tabulate_4, mz_rl d_Office_tabulate_7, mz_rl d_Office_tabulate_14, j_Office_tabulate_4, nF_0, eq_true hx]
    refine mz_callS (by simp only [d_Office_tabulate_8, Nat.reduceAdd]) g_0_62 rfl (fun _ _ h => h) (c_Office_isDeck G mk_P n f y) (by decide) (Nat.le_of_ble_eq_true rfl) rfl ?_; intro v_ n_ f_ h_; obtain ⟨rfl, hn_, hf_⟩ := h_; replace hn_ := hn_.symm; replace hf_ := hf_.symm; subst hn_; subst hf_
    by_cases hy : 0 ≤ y.toInt ∧ y.toInt < 8
    · obtain ⟨b, hb', rfl⟩ := mk_nat (x := x) (N := 4) hx.1 hx.2 (by decide)
      obtain ⟨i, hi, rfl⟩ := mk_nat (x := y) (N := 8) hy.1 hy.2 (by decide)
      have q1 := hB b hb'
      have q2 := hk b hb'
      obtain ⟨g, e1, e2, e3⟩ := h6.1 i hi
      obtain ⟨u4, w4, k4⟩ := c5
      have hsi := s8_le sz hi
      have hT' := Tb_u2 h4 hX
      refine mz_go [44] 40 ?_
      simp only [mz_r0, mk_lit, mk_fin, mk_cat, mk_fit, mk_nar, mk_cls, mk_ty, mk_isr, List.mem_cons, List.not_mem_nil, or_false, or_true, false_or, true_or, Nat.reduceEqDiff, Nat.reduceAdd, Nat.reduceSub, Nat.reduceLT, Nat.reduceLeDiff, ↓reduceIte, if_true, if_false, List.getElem?_cons_zero, List.getElem?_cons_succ, List.set_cons_zero, List.set_cons_succ, List.length_cons, List.length_nil, mz_s1, mz_s2, mz_cl, true_and, and_true, false_and, and_false, List.append_nil, mk_b0, mk_b1, mk_b2, mk_bn, Value.int.injEq, Option.toList_some, Option.toList_none, List.cons_append, List.nil_append, Classical.not_not, Option.some.injEq, reduceCtorEq, ne_eq, not_true_eq_false, not_false_eq_true, false_implies, true_implies, ev_51, ev_41, ev_79, ft_0_7, fn_0_7, ft_0_1, fn_0_1, ev_37, ev_76, ft_0_0, fn_0_0, ft_0_3, fn_0_3, mz_rl d_Office_tabulate_11, mz_rl d_Office_tabulate_14, mz_rl d_Office_tabulate_24, mz_rl d_Office_tabulate_25, mz_rl d_Office_tabulate_28, mz_rl d_Office_tabulate_29, mz_rl d_Office_tabulate_32, mz_rl d_Office_tabulate_33, mz_rl d_Office_tabulate_34, mz_rl d_Office_tabulate_35, mz_rl d_Office_tabulate_38, mz_rl d_Office_tabulate_39, mz_rl d_Office_tabulate_40, mz_rl d_Office_tabulate_41, j_Office_tabulate_11, nF_0, eq_true hy, ho, hq, hb, vp_in_nI hb' (show 4 < 2 ^ 31 by decide), nI_clamp (show b < 2 ^ 31 by omega), boardQ_at hb', vp_in_nI hi (show 8 < 2 ^ 31 by decide), nI_clamp (show i < 2 ^ 31 by omega), deckQ_at hi, va_rf]
      refine mz_callV (by simp only [d_Office_tabulate_44, Nat.reduceAdd]) g_0_180 rfl (fun _ _ h => h) (c_Tabulator_goThrough G n f c15 hT' hX q1 q2 (by omega) k4 e1 e2 (by omega) (by omega) (by omega) h7 e3) hT'.1 rfl rfl (by decide) (Nat.le_of_ble_eq_true rfl) rfl ?_; rintro v_ n_ f_ ⟨rfl, rfl, hT, hX2, hF, F4⟩
      refine mz_go [] 20 ?_
      simp only [mz_r0, mk_lit, mk_fin, mk_cat, mk_fit, mk_nar, mk_cls, mk_ty, mk_isr, List.mem_cons, List.not_mem_nil, or_false, or_true, false_or, true_or, Nat.reduceEqDiff, Nat.reduceAdd, Nat.reduceSub, Nat.reduceLT, Nat.reduceLeDiff, ↓reduceIte, if_true, if_false, List.getElem?_cons_zero, List.getElem?_cons_succ, List.set_cons_zero, List.set_cons_succ, List.length_cons, List.length_nil, mz_s1, mz_s2, mz_cl, true_and, and_true, false_and, and_false, List.append_nil, mk_b0, mk_b1, mk_b2, mk_bn, Value.int.injEq, Option.toList_some, Option.toList_none, List.cons_append, List.nil_append, Classical.not_not, Option.some.injEq, reduceCtorEq, ne_eq, not_true_eq_false, not_false_eq_true, false_implies, true_implies, ev_64, mz_rl d_Office_tabulate_47, nF_0]
      have hCI := CI_tb h hT ⟨_, _, F4⟩ (fun q z1 z2 => hF q z1 (by omega) (by omega) (by omega))
      exact ⟨b, i, _, hb', rfl, hi, rfl, rfl, rfl, rfl, hCI.1, hCI.2, MU_l F4 (hF 5 (by decide) (by decide) (by decide) (by decide)) (hF 8 (by decide) (by decide) (by decide) (by decide)), hX2⟩
    · refine mz_go [14] 20 ?_
      simp only [mz_r0, mk_lit, mk_fin, mk_cat, mk_fit, mk_nar, mk_cls, mk_ty, mk_isr, List.mem_cons, List.not_mem_nil, or_false, or_true, false_or, true_or, Nat.reduceEqDiff, Nat.reduceAdd, Nat.reduceSub, Nat.reduceLT, Nat.reduceLeDiff, ↓reduceIte, if_true, if_false, List.getElem?_cons_zero, List.getElem?_cons_succ, List.set_cons_zero, List.set_cons_succ, List.length_cons, List.length_nil, mz_s1, mz_s2, mz_cl, true_and, and_true, false_and, and_false, List.append_nil, mk_b0, mk_b1, mk_b2, mk_bn, Value.int.injEq, Option.toList_some, Option.toList_none, List.cons_append, List.nil_append, Classical.not_not, Option.some.injEq, reduceCtorEq, ne_eq, not_true_eq_false, not_false_eq_true, false_implies, true_implies, ev_51, ev_41, ev_79, ft_0_7, fn_0_7, ft_0_1, fn_0_1, ev_37, ev_76, ft_0_0, fn_0_0, ft_0_3, fn_0_3, mz_rl d_Office_tabulate_11, mz_rl d_Office_tabulate_24, mz_rl d_Office_tabulate_25, mz_rl d_Office_tabulate_28, mz_rl d_Office_tabulate_29, mz_rl d_Office_tabulate_32, mz_rl d_Office_tabulate_33, mz_rl d_Office_tabulate_34, mz_rl d_Office_tabulate_35, mz_rl d_Office_tabulate_38, mz_rl d_Office_tabulate_39, mz_rl d_Office_tabulate_40, mz_rl d_Office_tabulate_41, mz_rl d_Office_tabulate_44, j_Office_tabulate_11, nF_0, eq_false hy]
      exact mz_throw hfl (by decide) (by simp only [d_Office_tabulate]) (by simp only [d_Office_tabulate, Nat.reduceAdd]) (by simp only [d_Office_tabulate, Nat.reduceAdd]) (by simp only [d_Office_tabulate, Nat.reduceAdd]) (by simp only [d_Office_tabulate, Nat.reduceAdd]) th_s_178 th_w_113 (by decide +kernel) th_fits (by decide) (by decide) (by decide) (by decide) ⟨rfl, rfl, rfl, fun q => hy q.2⟩
  · refine mz_go [14] 20 ?_
    simp only [mz_r0, mk_lit, mk_fin, mk_cat, mk_fit, mk_nar, mk_cls, mk_ty, mk_isr, List.mem_cons, List.not_mem_nil, or_false, or_true, false_or, true_or, Nat.reduceEqDiff, Nat.reduceAdd, Nat.reduceSub, Nat.reduceLT, Nat.reduceLeDiff, ↓reduceIte, if_true, if_false, List.getElem?_cons_zero, List.getElem?_cons_succ, List.set_cons_zero, List.set_cons_succ, List.length_cons, List.length_nil, mz_s1, mz_s2, mz_cl, true_and, and_true, false_and, and_false, List.append_nil, mk_b0, mk_b1, mk_b2, mk_bn, Value.int.injEq, Option.toList_some, Option.toList_none, List.cons_append, List.nil_append, Classical.not_not, Option.some.injEq, reduceCtorEq, ne_eq, not_true_eq_false, not_false_eq_true, false_implies, true_implies, ev_49, ev_37, mz_rl d_Office_tabulate_4, mz_rl d_Office_tabulate_7, mz_rl d_Office_tabulate_8, j_Office_tabulate_4, nF_0, eq_false hx]
    exact mz_throw hfl (by decide) (by simp only [d_Office_tabulate]) (by simp only [d_Office_tabulate, Nat.reduceAdd]) (by simp only [d_Office_tabulate, Nat.reduceAdd]) (by simp only [d_Office_tabulate, Nat.reduceAdd]) (by simp only [d_Office_tabulate, Nat.reduceAdd]) th_s_178 th_w_113 (by decide +kernel) th_fits (by decide) (by decide) (by decide) (by decide) ⟨rfl, rfl, rfl, fun q => hx q.1⟩
set_option maxRecDepth 20000 in
theorem x_Office_sign (G : mz_G) (hfl : G.1.flags = pinnedFlags ++ [noTraceFlag]) (n : Nat) (f : mz_H) {x y z : Int32} {K : Nat} {sz : Nat → Nat} {cd s : Nat → Nat → Nat} (h : CI f n K sz cd s) :
    mz_X G mk_P 0 false b_Office_sign 4 (some .int) (r_Office_sign 1 6) (siP f n K sz cd s x y z) (fun ec n' f' => ec = "java/lang/IndexOutOfBoundsException" ∧ n' = n ∧ f' = f ∧ ¬ okSg sz x y z) 0 [some (.ref 0), some (.int x), some (.int y), some (.int z)] [] 0 0 n f := by
  obtain ⟨lx, h1, h2, h3, h4, h5, h6, h7⟩ := id h
  have ho := h3.1
  have hq := h3.2.1
  have hb := h3.2.2.1
  have hs8 : s8 sz = K := h6.2
  obtain ⟨c1, c2, c3, c4, c5, c6, c7, c8, c9, c10, c11, c12, c13, c14, c15⟩ := id h3
  refine mz_go [1] 20 ?_
  simp only [mz_r0, mk_lit, mk_fin, mk_cat, mk_fit, mk_nar, mk_cls, mk_ty, mk_isr, List.mem_cons, List.not_mem_nil, or_false, or_true, false_or, true_or, Nat.reduceEqDiff, Nat.reduceAdd, Nat.reduceSub, Nat.reduceLT, Nat.reduceLeDiff, ↓reduceIte, if_true, if_false, List.getElem?_cons_zero, List.getElem?_cons_succ, List.set_cons_zero, List.set_cons_succ, List.length_cons, List.length_nil, mz_s1, mz_s2, mz_cl, true_and, and_true, false_and, and_false, List.append_nil, mk_b0, mk_b1, mk_b2, mk_bn, Value.int.injEq, Option.toList_some, Option.toList_none, List.cons_append, List.nil_append, Classical.not_not, Option.some.injEq, reduceCtorEq, ne_eq, not_true_eq_false, not_false_eq_true, false_implies, true_implies, ev_37, mz_rl d_Office_sign_0, nF_0]
  refine mz_callS (by simp only [d_Office_sign_1, Nat.reduceAdd]) g_0_62 rfl (fun _ _ h => h) (c_Office_isDeck G mk_P n f x) (by decide) (Nat.le_of_ble_eq_true rfl) rfl ?_; intro v_ n_ f_ h_; obtain ⟨rfl, hn_, hf_⟩ := h_; replace hn_ := hn_.symm; replace hf_ := hf_.symm; subst hn_; subst hf_
  by_cases hx : 0 ≤ x.toInt ∧ x.toInt < 8
  · obtain ⟨i, hi, rfl⟩ := mk_nat (x := x) (N := 8) hx.1 hx.2 (by decide)
    obtain ⟨g, e1, e2, e3⟩ := h6.1 i hi
    have hsi := s8_le sz hi
    have ci : (nI i).toNatClampNeg = i := nI_clamp (by omega)
    by_cases y0 : y < 0
    · refine mz_go [31] 20 ?_
      simp only [mz_r0, mk_lit, mk_fin, mk_cat, mk_fit, mk_nar, mk_cls, mk_ty, mk_isr, List.mem_cons, List.not_mem_nil, or_false, or_true, false_or, true_or, Nat.reduceEqDiff, Nat.reduceAdd, Nat.reduceSub, Nat.reduceLT, Nat.reduceLeDiff, ↓reduceIte, if_true, if_false, List.getElem?_cons_zero, List.getElem?_cons_succ, List.set_cons_zero, List.set_cons_succ, List.length_cons, List.length_nil, mz_s1, mz_s2, mz_cl, true_and, and_true, false_and, and_false, List.append_nil, mk_b0, mk_b1, mk_b2, mk_bn, Value.int.injEq, Option.toList_some, Option.toList_none, List.cons_append, List.nil_append, Classical.not_not, Option.some.injEq, reduceCtorEq, ne_eq, not_true_eq_false, not_false_eq_true, false_implies, true_implies, ev_49, ev_37, ev_53, ev_41, ev_79, ft_0_0, fn_0_0, ev_76, ft_4_1, fn_4_1, ev_56, mz_rl d_Office_sign_4, mz_rl d_Office_sign_7, mz_rl d_Office_sign_8, mz_rl d_Office_sign_11, mz_rl d_Office_sign_12, mz_rl d_Office_sign_13, mz_rl d_Office_sign_16, mz_rl d_Office_sign_17, mz_rl d_Office_sign_18, mz_rl d_Office_sign_21, mz_rl d_Office_sign_24, mz_rl d_Office_sign_25, j_Office_sign_4, j_Office_sign_8, j_Office_sign_21, nF_0, eq_true hx, eq_true y0]
      exact mz_throw hfl (by decide) (by simp only [d_Office_sign]) (by simp only [d_Office_sign, Nat.reduceAdd]) (by simp only [d_Office_sign, Nat.reduceAdd]) (by simp only [d_Office_sign, Nat.reduceAdd]) (by simp only [d_Office_sign, Nat.reduceAdd]) th_s_193 th_w_195 (by decide +kernel) th_fits (by decide) (by decide) (by decide) (by decide) ⟨rfl, rfl, rfl, fun q => q.2.1 y0⟩
    · by_cases y1 : nI (sz i) ≤ y
      · refine mz_go [31] 20 ?_
        simp only [mz_r0, mk_lit, mk_fin, mk_cat, mk_fit, mk_nar, mk_cls, mk_ty, mk_isr, List.mem_cons, List.not_mem_nil, or_false, or_true, false_or, true_or, Nat.reduceEqDiff, Nat.reduceAdd, Nat.reduceSub, Nat.reduceLT, Nat.reduceLeDiff, ↓reduceIte, if_true, if_false, List.getElem?_cons_zero, List.getElem?_cons_succ, List.set_cons_zero, List.set_cons_succ, List.length_cons, List.length_nil, mz_s1, mz_s2, mz_cl, true_and, and_true, false_and, and_false, List.append_nil, mk_b0, mk_b1, mk_b2, mk_bn, Value.int.injEq, Option.toList_some, Option.toList_none, List.cons_append, List.nil_append, Classical.not_not, Option.some.injEq, reduceCtorEq, ne_eq, not_true_eq_false, not_false_eq_true, false_implies, true_implies, ev_49, ev_37, ev_53, ev_41, ev_79, ft_0_0, fn_0_0, ev_76, ft_4_1, fn_4_1, ev_56, mz_rl d_Office_sign_4, mz_rl d_Office_sign_7, mz_rl d_Office_sign_8, mz_rl d_Office_sign_11, mz_rl d_Office_sign_12, mz_rl d_Office_sign_13, mz_rl d_Office_sign_16, mz_rl d_Office_sign_17, mz_rl d_Office_sign_18, mz_rl d_Office_sign_21, mz_rl d_Office_sign_24, mz_rl d_Office_sign_25, j_Office_sign_4, j_Office_sign_8, j_Office_sign_21, nF_0, eq_true hx, eq_false y0, ho, hq, vp_in_nI hi (show 8 < 2 ^ 31 by decide), nI_clamp (show i < 2 ^ 31 by omega), deckQ_at hi, va_rf, e1, eq_true y1]
        exact mz_throw hfl (by decide) (by simp only [d_Office_sign]) (by simp only [d_Office_sign, Nat.reduceAdd]) (by simp only [d_Office_sign, Nat.reduceAdd]) (by simp only [d_Office_sign, Nat.reduceAdd]) (by simp only [d_Office_sign, Nat.reduceAdd]) th_s_193 th_w_195 (by decide +kernel) th_fits (by decide) (by decide) (by decide) (by decide) ⟨rfl, rfl, rfl, fun q => q.2.2.1 (by rw [ci]; exact y1)⟩
      · obtain ⟨j, hj, rfl⟩ : ∃ j, j < sz i ∧ y = nI j := by
          rw [mk_le, mk_nti (show sz i < 2 ^ 31 by omega)] at y1
          rw [mk_lt] at y0
          have q0 : (0 : Int32).toInt = 0 := rfl
          exact mk_nat (x := y) (N := sz i) (by omega) (by omega) (by omega)
        refine mz_go [25] 20 ?_
        simp only [mz_r0, mk_lit, mk_fin, mk_cat, mk_fit, mk_nar, mk_cls, mk_ty, mk_isr, List.mem_cons, List.not_mem_nil, or_false, or_true, false_or, true_or, Nat.reduceEqDiff, Nat.reduceAdd, Nat.reduceSub, Nat.reduceLT, Nat.reduceLeDiff, ↓reduceIte, if_true, if_false, List.getElem?_cons_zero, List.getElem?_cons_succ, List.set_cons_zero, List.set_cons_succ, List.length_cons, List.length_nil, mz_s1, mz_s2, mz_cl, true_and, and_true, false_and, and_false, List.append_nil, mk_b0, mk_b1, mk_b2, mk_bn, Value.int.injEq, Option.toList_some, Option.toList_none, List.cons_append, List.nil_append, Classical.not_not, Option.some.injEq, reduceCtorEq, ne_eq, not_true_eq_false, not_false_eq_true, false_implies, true_implies, ev_49, ev_37, ev_53, ev_41, ev_79, ft_0_0, fn_0_0, ev_76, ft_4_1, fn_4_1, ev_56, mz_rl d_Office_sign_4, mz_rl d_Office_sign_7, mz_rl d_Office_sign_8, mz_rl d_Office_sign_11, mz_rl d_Office_sign_12, mz_rl d_Office_sign_13, mz_rl d_Office_sign_16, mz_rl d_Office_sign_17, mz_rl d_Office_sign_18, mz_rl d_Office_sign_21, mz_rl d_Office_sign_24, mz_rl d_Office_sign_31, j_Office_sign_4, j_Office_sign_8, j_Office_sign_21, nF_0, eq_true hx, eq_false y0, ho, hq, vp_in_nI hi (show 8 < 2 ^ 31 by decide), nI_clamp (show i < 2 ^ 31 by omega), deckQ_at hi, va_rf, e1, eq_false y1]
        refine mz_callS (by simp only [d_Office_sign_25, Nat.reduceAdd]) g_0_106 rfl (fun _ _ h => h) (c_Office_isColumn G mk_P n f z) (by decide) (Nat.le_of_ble_eq_true rfl) rfl ?_; intro v_ n_ f_ h_; obtain ⟨rfl, hn_, hf_⟩ := h_; replace hn_ := hn_.symm; replace hf_ := hf_.symm; subst hn_; subst hf_
        by_cases hz : 0 ≤ z.toInt ∧ z.toInt < 16
        · obtain ⟨k, hk, rfl⟩ := mk_nat (x := z) (N := 16) hz.1 hz.2 (by decide)
          refine mz_go [48] 20 ?_
          simp only [mz_r0, mk_lit, mk_fin, mk_cat, mk_fit, mk_nar, mk_cls, mk_ty, mk_isr, List.mem_cons, List.not_mem_nil, or_false, or_true, false_or, true_or, Nat.reduceEqDiff, Nat.reduceAdd, Nat.reduceSub, Nat.reduceLT, Nat.reduceLeDiff, ↓reduceIte, if_true, if_false, List.getElem?_cons_zero, List.getElem?_cons_succ, List.set_cons_zero, List.set_cons_succ, List.length_cons, List.length_nil, mz_s1, mz_s2, mz_cl, true_and, and_true, false_and, and_false, List.append_nil, mk_b0, mk_b1, mk_b2, mk_bn, Value.int.injEq, Option.toList_some, Option.toList_none, List.cons_append, List.nil_append, Classical.not_not, Option.some.injEq, reduceCtorEq, ne_eq, not_true_eq_false, not_false_eq_true, false_implies, true_implies, ev_51, ev_41, ev_79, ft_0_0, fn_0_0, ev_37, ev_76, mz_rl d_Office_sign_28, mz_rl d_Office_sign_31, mz_rl d_Office_sign_41, mz_rl d_Office_sign_42, mz_rl d_Office_sign_45, mz_rl d_Office_sign_46, mz_rl d_Office_sign_47, j_Office_sign_28, nF_0, eq_true hz, ho, hq, vp_in_nI hi (show 8 < 2 ^ 31 by decide), nI_clamp (show i < 2 ^ 31 by omega), deckQ_at hi, va_rf]
          refine mz_callV (by simp only [d_Office_sign_48, Nat.reduceAdd]) g_0_196 rfl (fun _ _ h => h) (c_Deck_at G mk_P n f e1 e2 (show j < 200 by omega) (e3 j hj).1) e1 rfl rfl (by decide) (Nat.le_of_ble_eq_true rfl) rfl ?_; intro v_ n_ f_ h_; obtain ⟨rfl, hn_, hf_⟩ := h_; replace hn_ := hn_.symm; replace hf_ := hf_.symm; subst hn_; subst hf_
          have qC := h7 _ (e3 j hj).2
          refine mz_go [] 20 ?_
          simp only [mz_r0, mk_lit, mk_fin, mk_cat, mk_fit, mk_nar, mk_cls, mk_ty, mk_isr, List.mem_cons, List.not_mem_nil, or_false, or_true, false_or, true_or, Nat.reduceEqDiff, Nat.reduceAdd, Nat.reduceSub, Nat.reduceLT, Nat.reduceLeDiff, ↓reduceIte, if_true, if_false, List.getElem?_cons_zero, List.getElem?_cons_succ, List.set_cons_zero, List.set_cons_succ, List.length_cons, List.length_nil, mz_s1, mz_s2, mz_cl, true_and, and_true, false_and, and_false, List.append_nil, mk_b0, mk_b1, mk_b2, mk_bn, Value.int.injEq, Option.toList_some, Option.toList_none, List.cons_append, List.nil_append, Classical.not_not, Option.some.injEq, reduceCtorEq, ne_eq, not_true_eq_false, not_false_eq_true, false_implies, true_implies, ev_79, ft_2_0, fn_2_0, ev_37, ev_68, ev_64, mz_rl d_Office_sign_51, mz_rl d_Office_sign_54, mz_rl d_Office_sign_55, mz_rl d_Office_sign_56, nF_0, qC.1, qC.2.1, vp_in_nI hk (show 16 < 2 ^ 31 by decide), nI_clamp (show k < 2 ^ 31 by omega)]
          exact ⟨⟨i, j, k, hi, rfl, hj, rfl, hk, rfl, rfl⟩, rfl, CI_rg h⟩
        · refine mz_go [31] 20 ?_
          simp only [mz_r0, mk_lit, mk_fin, mk_cat, mk_fit, mk_nar, mk_cls, mk_ty, mk_isr, List.mem_cons, List.not_mem_nil, or_false, or_true, false_or, true_or, Nat.reduceEqDiff, Nat.reduceAdd, Nat.reduceSub, Nat.reduceLT, Nat.reduceLeDiff, ↓reduceIte, if_true, if_false, List.getElem?_cons_zero, List.getElem?_cons_succ, List.set_cons_zero, List.set_cons_succ, List.length_cons, List.length_nil, mz_s1, mz_s2, mz_cl, true_and, and_true, false_and, and_false, List.append_nil, mk_b0, mk_b1, mk_b2, mk_bn, Value.int.injEq, Option.toList_some, Option.toList_none, List.cons_append, List.nil_append, Classical.not_not, Option.some.injEq, reduceCtorEq, ne_eq, not_true_eq_false, not_false_eq_true, false_implies, true_implies, ev_51, ev_41, ev_79, ft_0_0, fn_0_0, ev_37, ev_76, mz_rl d_Office_sign_28, mz_rl d_Office_sign_41, mz_rl d_Office_sign_42, mz_rl d_Office_sign_45, mz_rl d_Office_sign_46, mz_rl d_Office_sign_47, mz_rl d_Office_sign_48, j_Office_sign_28, nF_0, eq_false hz]
          exact mz_throw hfl (by decide) (by simp only [d_Office_sign]) (by simp only [d_Office_sign, Nat.reduceAdd]) (by simp only [d_Office_sign, Nat.reduceAdd]) (by simp only [d_Office_sign, Nat.reduceAdd]) (by simp only [d_Office_sign, Nat.reduceAdd]) th_s_193 th_w_195 (by decide +kernel) th_fits (by decide) (by decide) (by decide) (by decide) ⟨rfl, rfl, rfl, fun q => hz q.2.2.2⟩
  · refine mz_go [31] 20 ?_
    simp only [mz_r0, mk_lit, mk_fin, mk_cat, mk_fit, mk_nar, mk_cls, mk_ty, mk_isr, List.mem_cons, List.not_mem_nil, or_false, or_true, false_or, true_or, Nat.reduceEqDiff, Nat.reduceAdd, Nat.reduceSub, Nat.reduceLT, Nat.reduceLeDiff, ↓reduceIte, if_true, if_false, List.getElem?_cons_zero, List.getElem?_cons_succ, List.set_cons_zero, List.set_cons_succ, List.length_cons, List.length_nil, mz_s1, mz_s2, mz_cl, true_and, and_true, false_and, and_false, List.append_nil, mk_b0, mk_b1, mk_b2, mk_bn, Value.int.injEq, Option.toList_some, Option.toList_none, List.cons_append, List.nil_append, Classical.not_not, Option.some.injEq, reduceCtorEq, ne_eq, not_true_eq_false, not_false_eq_true, false_implies, true_implies, ev_49, ev_37, ev_53, ev_41, ev_79, ft_0_0, fn_0_0, ev_76, ft_4_1, fn_4_1, ev_56, mz_rl d_Office_sign_4, mz_rl d_Office_sign_7, mz_rl d_Office_sign_8, mz_rl d_Office_sign_11, mz_rl d_Office_sign_12, mz_rl d_Office_sign_13, mz_rl d_Office_sign_16, mz_rl d_Office_sign_17, mz_rl d_Office_sign_18, mz_rl d_Office_sign_21, mz_rl d_Office_sign_24, mz_rl d_Office_sign_25, j_Office_sign_4, j_Office_sign_8, j_Office_sign_21, nF_0, eq_false hx]
    exact mz_throw hfl (by decide) (by simp only [d_Office_sign]) (by simp only [d_Office_sign, Nat.reduceAdd]) (by simp only [d_Office_sign, Nat.reduceAdd]) (by simp only [d_Office_sign, Nat.reduceAdd]) (by simp only [d_Office_sign, Nat.reduceAdd]) th_s_193 th_w_195 (by decide +kernel) th_fits (by decide) (by decide) (by decide) (by decide) ⟨rfl, rfl, rfl, fun q => hx q.1⟩
def okPr (u : tT) (x y : Int32) : Prop := ¬ x < 0 ∧ ¬ nI u.2.1 ≤ x ∧ ¬ y < 0 ∧ y < nI 24
def prP (f : mz_H) (n K : Nat) (sz : Nat → Nat) (cd s : Nat → Nat → Nat) (u : tT) (x y : Int32) (v : Option Value) (n' : Nat) (f' : mz_H) : Prop := (∃ i j, i < u.2.1 ∧ x = nI i ∧ j < 24 ∧ y = nI j ∧ v = some (.int (nI (u.2.2 i j)))) ∧ n' = n ∧ CI f' n K sz cd s ∧ FrB f f' ∧ MU f f' no_U
set_option maxRecDepth 20000 in
theorem x_Office_printed (G : mz_G) (hfl : G.1.flags = pinnedFlags ++ [noTraceFlag]) (n : Nat) (f : mz_H) {x y : Int32} {K : Nat} {sz : Nat → Nat} {cd s : Nat → Nat → Nat} (h : CI f n K sz cd s) {u : tT} (hX : TT f u) :
    mz_X G mk_P 0 false b_Office_printed 3 (some .int) (r_Office_printed 1 6) (prP f n K sz cd s u x y) (fun ec n' f' => ec = "java/lang/IndexOutOfBoundsException" ∧ n' = n ∧ f' = f ∧ ¬ okPr u x y) 0 [some (.ref 0), some (.int x), some (.int y)] [] 0 0 n f := by
  obtain ⟨lx, h1, h2, h3, h4, h5, h6, h7⟩ := id h
  have ho := h3.1
  have hq := h3.2.1
  have hb := h3.2.2.1
  have hs8 : s8 sz = K := h6.2
  obtain ⟨c1, c2, c3, c4, c5, c6, c7, c8, c9, c10, c11, c12, c13, c14, c15⟩ := id h3
  have h16 := h4.1
  have h18 := hX.2.1
  have h19 := h4.2.2.1.2.1
  have hlx := hX.2.2.2.1
  by_cases x0 : x < 0
  · refine mz_go [28] 20 ?_
    simp only [mz_r0, mk_lit, mk_fin, mk_cat, mk_fit, mk_nar, mk_cls, mk_ty, mk_isr, List.mem_cons, List.not_mem_nil, or_false, or_true, false_or, true_or, Nat.reduceEqDiff, Nat.reduceAdd, Nat.reduceSub, Nat.reduceLT, Nat.reduceLeDiff, ↓reduceIte, if_true, if_false, List.getElem?_cons_zero, List.getElem?_cons_succ, List.set_cons_zero, List.set_cons_succ, List.length_cons, List.length_nil, mz_s1, mz_s2, mz_cl, true_and, and_true, false_and, and_false, List.append_nil, mk_b0, mk_b1, mk_b2, mk_bn, Value.int.injEq, Option.toList_some, Option.toList_none, List.cons_append, List.nil_append, Classical.not_not, Option.some.injEq, reduceCtorEq, ne_eq, not_true_eq_false, not_false_eq_true, false_implies, true_implies, ev_37, ev_53, ev_41, ev_79, ft_0_7, fn_0_7, ft_10_1, fn_10_1, ft_7_1, fn_7_1, ev_56, ev_1, ev_54, ft_7_0, fn_7_0, ev_76, ev_68, ev_64, mz_rl d_Office_printed_0, mz_rl d_Office_printed_1, mz_rl d_Office_printed_4, mz_rl d_Office_printed_5, mz_rl d_Office_printed_6, mz_rl d_Office_printed_9, mz_rl d_Office_printed_12, mz_rl d_Office_printed_15, mz_rl d_Office_printed_18, mz_rl d_Office_printed_19, mz_rl d_Office_printed_22, mz_rl d_Office_printed_23, mz_rl d_Office_printed_25, mz_rl d_Office_printed_38, mz_rl d_Office_printed_39, mz_rl d_Office_printed_42, mz_rl d_Office_printed_45, mz_rl d_Office_printed_48, mz_rl d_Office_printed_49, mz_rl d_Office_printed_50, mz_rl d_Office_printed_51, mz_rl d_Office_printed_52, j_Office_printed_1, j_Office_printed_15, j_Office_printed_19, j_Office_printed_25, nF_0, eq_true x0]
    exact mz_throw hfl (by decide) (by simp only [d_Office_printed]) (by simp only [d_Office_printed, Nat.reduceAdd]) (by simp only [d_Office_printed, Nat.reduceAdd]) (by simp only [d_Office_printed, Nat.reduceAdd]) (by simp only [d_Office_printed, Nat.reduceAdd]) th_s_209 th_w_195 (by decide +kernel) th_fits (by decide) (by decide) (by decide) (by decide) ⟨rfl, rfl, rfl, fun q => q.1 x0⟩
  · by_cases x1 : nI u.2.1 ≤ x
    · refine mz_go [28] 20 ?_
      simp only [mz_r0, mk_lit, mk_fin, mk_cat, mk_fit, mk_nar, mk_cls, mk_ty, mk_isr, List.mem_cons, List.not_mem_nil, or_false, or_true, false_or, true_or, Nat.reduceEqDiff, Nat.reduceAdd, Nat.reduceSub, Nat.reduceLT, Nat.reduceLeDiff, ↓reduceIte, if_true, if_false, List.getElem?_cons_zero, List.getElem?_cons_succ, List.set_cons_zero, List.set_cons_succ, List.length_cons, List.length_nil, mz_s1, mz_s2, mz_cl, true_and, and_true, false_and, and_false, List.append_nil, mk_b0, mk_b1, mk_b2, mk_bn, Value.int.injEq, Option.toList_some, Option.toList_none, List.cons_append, List.nil_append, Classical.not_not, Option.some.injEq, reduceCtorEq, ne_eq, not_true_eq_false, not_false_eq_true, false_implies, true_implies, ev_37, ev_53, ev_41, ev_79, ft_0_7, fn_0_7, ft_10_1, fn_10_1, ft_7_1, fn_7_1, ev_56, ev_1, ev_54, ft_7_0, fn_7_0, ev_76, ev_68, ev_64, mz_rl d_Office_printed_0, mz_rl d_Office_printed_1, mz_rl d_Office_printed_4, mz_rl d_Office_printed_5, mz_rl d_Office_printed_6, mz_rl d_Office_printed_9, mz_rl d_Office_printed_12, mz_rl d_Office_printed_15, mz_rl d_Office_printed_18, mz_rl d_Office_printed_19, mz_rl d_Office_printed_22, mz_rl d_Office_printed_23, mz_rl d_Office_printed_25, mz_rl d_Office_printed_38, mz_rl d_Office_printed_39, mz_rl d_Office_printed_42, mz_rl d_Office_printed_45, mz_rl d_Office_printed_48, mz_rl d_Office_printed_49, mz_rl d_Office_printed_50, mz_rl d_Office_printed_51, mz_rl d_Office_printed_52, j_Office_printed_1, j_Office_printed_15, j_Office_printed_19, j_Office_printed_25, nF_0, eq_false x0, ho, h16, h18, eq_true x1]
      exact mz_throw hfl (by decide) (by simp only [d_Office_printed]) (by simp only [d_Office_printed, Nat.reduceAdd]) (by simp only [d_Office_printed, Nat.reduceAdd]) (by simp only [d_Office_printed, Nat.reduceAdd]) (by simp only [d_Office_printed, Nat.reduceAdd]) th_s_209 th_w_195 (by decide +kernel) th_fits (by decide) (by decide) (by decide) (by decide) ⟨rfl, rfl, rfl, fun q => q.2.1 x1⟩
    · by_cases y0 : y < 0
      · refine mz_go [28] 20 ?_
        simp only [mz_r0, mk_lit, mk_fin, mk_cat, mk_fit, mk_nar, mk_cls, mk_ty, mk_isr, List.mem_cons, List.not_mem_nil, or_false, or_true, false_or, true_or, Nat.reduceEqDiff, Nat.reduceAdd, Nat.reduceSub, Nat.reduceLT, Nat.reduceLeDiff, ↓reduceIte, if_true, if_false, List.getElem?_cons_zero, List.getElem?_cons_succ, List.set_cons_zero, List.set_cons_succ, List.length_cons, List.length_nil, mz_s1, mz_s2, mz_cl, true_and, and_true, false_and, and_false, List.append_nil, mk_b0, mk_b1, mk_b2, mk_bn, Value.int.injEq, Option.toList_some, Option.toList_none, List.cons_append, List.nil_append, Classical.not_not, Option.some.injEq, reduceCtorEq, ne_eq, not_true_eq_false, not_false_eq_true, false_implies, true_implies, ev_37, ev_53, ev_41, ev_79, ft_0_7, fn_0_7, ft_10_1, fn_10_1, ft_7_1, fn_7_1, ev_56, ev_1, ev_54, ft_7_0, fn_7_0, ev_76, ev_68, ev_64, mz_rl d_Office_printed_0, mz_rl d_Office_printed_1, mz_rl d_Office_printed_4, mz_rl d_Office_printed_5, mz_rl d_Office_printed_6, mz_rl d_Office_printed_9, mz_rl d_Office_printed_12, mz_rl d_Office_printed_15, mz_rl d_Office_printed_18, mz_rl d_Office_printed_19, mz_rl d_Office_printed_22, mz_rl d_Office_printed_23, mz_rl d_Office_printed_25, mz_rl d_Office_printed_38, mz_rl d_Office_printed_39, mz_rl d_Office_printed_42, mz_rl d_Office_printed_45, mz_rl d_Office_printed_48, mz_rl d_Office_printed_49, mz_rl d_Office_printed_50, mz_rl d_Office_printed_51, mz_rl d_Office_printed_52, j_Office_printed_1, j_Office_printed_15, j_Office_printed_19, j_Office_printed_25, nF_0, eq_false x0, ho, h16, h18, eq_false x1, eq_true y0]
        exact mz_throw hfl (by decide) (by simp only [d_Office_printed]) (by simp only [d_Office_printed, Nat.reduceAdd]) (by simp only [d_Office_printed, Nat.reduceAdd]) (by simp only [d_Office_printed, Nat.reduceAdd]) (by simp only [d_Office_printed, Nat.reduceAdd]) th_s_209 th_w_195 (by decide +kernel) th_fits (by decide) (by decide) (by decide) (by decide) ⟨rfl, rfl, rfl, fun q => q.2.2.1 y0⟩
      · by_cases y1 : y < nI 24
        · obtain ⟨i, hi, rfl⟩ : ∃ i, i < u.2.1 ∧ x = nI i := by
            rw [mk_le, mk_nti (show u.2.1 < 2 ^ 31 by omega)] at x1
            rw [mk_lt] at x0
            have q0 : (0 : Int32).toInt = 0 := rfl
            exact mk_nat (x := x) (N := u.2.1) (by omega) (by omega) (by omega)
          obtain ⟨j, hj, rfl⟩ : ∃ j, j < 24 ∧ y = nI j := by
            rw [mk_lt, mk_nti (show 24 < 2 ^ 31 by omega)] at y1
            rw [mk_lt] at y0
            have q0 : (0 : Int32).toInt = 0 := rfl
            exact mk_nat (x := y) (N := 24) (by omega) (by omega) (by omega)
          obtain ⟨g, hg, hgv⟩ := hX.2.2.1 i hi
          have hgj := hgv j hj
          refine mz_go [] 40 ?_
          simp only [mz_r0, mk_lit, mk_fin, mk_cat, mk_fit, mk_nar, mk_cls, mk_ty, mk_isr, List.mem_cons, List.not_mem_nil, or_false, or_true, false_or, true_or, Nat.reduceEqDiff, Nat.reduceAdd, Nat.reduceSub, Nat.reduceLT, Nat.reduceLeDiff, ↓reduceIte, if_true, if_false, List.getElem?_cons_zero, List.getElem?_cons_succ, List.set_cons_zero, List.set_cons_succ, List.length_cons, List.length_nil, mz_s1, mz_s2, mz_cl, true_and, and_true, false_and, and_false, List.append_nil, mk_b0, mk_b1, mk_b2, mk_bn, Value.int.injEq, Option.toList_some, Option.toList_none, List.cons_append, List.nil_append, Classical.not_not, Option.some.injEq, reduceCtorEq, ne_eq, not_true_eq_false, not_false_eq_true, false_implies, true_implies, ev_37, ev_53, ev_41, ev_79, ft_0_7, fn_0_7, ft_10_1, fn_10_1, ft_7_1, fn_7_1, ev_56, ev_1, ev_54, ft_7_0, fn_7_0, ev_76, ev_68, ev_64, mz_rl d_Office_printed_0, mz_rl d_Office_printed_1, mz_rl d_Office_printed_4, mz_rl d_Office_printed_5, mz_rl d_Office_printed_6, mz_rl d_Office_printed_9, mz_rl d_Office_printed_12, mz_rl d_Office_printed_15, mz_rl d_Office_printed_18, mz_rl d_Office_printed_19, mz_rl d_Office_printed_22, mz_rl d_Office_printed_23, mz_rl d_Office_printed_25, mz_rl d_Office_printed_28, mz_rl d_Office_printed_38, mz_rl d_Office_printed_39, mz_rl d_Office_printed_42, mz_rl d_Office_printed_45, mz_rl d_Office_printed_48, mz_rl d_Office_printed_49, mz_rl d_Office_printed_50, mz_rl d_Office_printed_51, mz_rl d_Office_printed_52, j_Office_printed_1, j_Office_printed_15, j_Office_printed_19, j_Office_printed_25, nF_0, eq_false x0, ho, h16, h18, h19, eq_false x1, eq_false y0, eq_true y1, vp_in_nI (show i < 100 by omega) (show 100 < 2 ^ 31 by decide), (show rowQ i = some (20 + i) by unfold rowQ; exact if_pos (by omega)), nI_clamp (show i < 2 ^ 31 by omega), vp_in_nI hj (show 24 < 2 ^ 31 by decide), nI_clamp (show j < 2 ^ 31 by omega), va_rf, hg, hgj]
          exact ⟨⟨i, j, hi, rfl, hj, rfl, rfl⟩, rfl, CI_rg h⟩
        · refine mz_go [28] 20 ?_
          simp only [mz_r0, mk_lit, mk_fin, mk_cat, mk_fit, mk_nar, mk_cls, mk_ty, mk_isr, List.mem_cons, List.not_mem_nil, or_false, or_true, false_or, true_or, Nat.reduceEqDiff, Nat.reduceAdd, Nat.reduceSub, Nat.reduceLT, Nat.reduceLeDiff, ↓reduceIte, if_true, if_false, List.getElem?_cons_zero, List.getElem?_cons_succ, List.set_cons_zero, List.set_cons_succ, List.length_cons, List.length_nil, mz_s1, mz_s2, mz_cl, true_and, and_true, false_and, and_false, List.append_nil, mk_b0, mk_b1, mk_b2, mk_bn, Value.int.injEq, Option.toList_some, Option.toList_none, List.cons_append, List.nil_append, Classical.not_not, Option.some.injEq, reduceCtorEq, ne_eq, not_true_eq_false, not_false_eq_true, false_implies, true_implies, ev_37, ev_53, ev_41, ev_79, ft_0_7, fn_0_7, ft_10_1, fn_10_1, ft_7_1, fn_7_1, ev_56, ev_1, ev_54, ft_7_0, fn_7_0, ev_76, ev_68, ev_64, mz_rl d_Office_printed_0, mz_rl d_Office_printed_1, mz_rl d_Office_printed_4, mz_rl d_Office_printed_5, mz_rl d_Office_printed_6, mz_rl d_Office_printed_9, mz_rl d_Office_printed_12, mz_rl d_Office_printed_15, mz_rl d_Office_printed_18, mz_rl d_Office_printed_19, mz_rl d_Office_printed_22, mz_rl d_Office_printed_23, mz_rl d_Office_printed_25, mz_rl d_Office_printed_38, mz_rl d_Office_printed_39, mz_rl d_Office_printed_42, mz_rl d_Office_printed_45, mz_rl d_Office_printed_48, mz_rl d_Office_printed_49, mz_rl d_Office_printed_50, mz_rl d_Office_printed_51, mz_rl d_Office_printed_52, j_Office_printed_1, j_Office_printed_15, j_Office_printed_19, j_Office_printed_25, nF_0, eq_false x0, ho, h16, h18, eq_false x1, eq_false y0, eq_false y1]
          exact mz_throw hfl (by decide) (by simp only [d_Office_printed]) (by simp only [d_Office_printed, Nat.reduceAdd]) (by simp only [d_Office_printed, Nat.reduceAdd]) (by simp only [d_Office_printed, Nat.reduceAdd]) (by simp only [d_Office_printed, Nat.reduceAdd]) th_s_209 th_w_195 (by decide +kernel) th_fits (by decide) (by decide) (by decide) (by decide) ⟨rfl, rfl, rfl, fun q => y1 q.2.2.2⟩
end
section
/-! methods with an exception table: the law's own, that call what may throw -/
theorem mk_weaken {tb : Tables} {e : Env} {mid below : List Frame} {a b : State} (h : Steps tb e (mid ++ below) a b) : Steps tb e below a b := by
  obtain ⟨n, hn, w⟩ := h
  exact ⟨n, hn, fun k hk => (w k hk).weaken⟩
def mz_wsW (y : MethodName) (cc : ByteArray) (nL : Nat) (ret : Option FieldType) : List Cond := .codeWith y cc nL ret (nm_Hd cc) :: nm_Ts
def mz_CtW (G : mz_G) (X : mz_E) (y : MethodName) (cc : ByteArray) (nL : Nat) (ret : Option FieldType) (rm : Room) (vs : List Value) (n : Nat) (f : mz_H) (post : Option Value → Nat → mz_H → Prop) : Prop :=
  ∀ (ad : Nat → Nat) (sz : Nat), mz_wf n f → mz_okS n vs → Met G.1 y (mz_wsW y cc nL ret) rm (mz_pc G X ad sz vs n f) (mz_q G (va_A (mz_w G.2.2 ad n f) sz) ad n post) rm.cells rm.slots (va_A (mz_w G.2.2 ad n f) sz)
theorem mz_CtW_of {G : mz_G} {X : mz_E} {y : MethodName} {cc : ByteArray} {nL : Nat} {ret : Option FieldType} {rm : Room} {vs : List Value} {n : Nat} {f : mz_H} {post : Option Value → Nat → mz_H → Prop} (l : mz_L) (hy : plainName y.cls = true) (hcn : y.cls = nm_Own 13) (hlen : (mz_la vs).length ≤ nL) (hl : mz_l0 nL vs = l)
    (h : mz_X G X 13 false cc nL ret rm post (fun _ _ _ => False) 0 l [] 0 0 n f) : mz_CtW G X y cc nL ret rm vs n f post := by
  subst hl
  intro ad sz hwf hok
  refine va_MetW (cc := cc) (maxL := nL) (ret := ret) (hh := nm_Hd cc) hy rfl ?_
  intro p e s m args below meth c s₁ B hml hv
  obtain ⟨rfl, rfl, hP, hK, hD0, hns, hxt⟩ := hv
  rw [lg_entry_eq]
  have hts := atoms_spec (ws := mz_wsW y cc nL ret) B.pre
  have hown : s.vm.findClass y.cls = some m.cls := findClass_of_methodNamed B.named
  rw [hcn] at hown
  obtain ⟨m9, meth9, c9, hn9, h1, h2, h3, h4, h5, h6, h7, h8⟩ := Cond.codeWith_spec (hts _ List.mem_cons_self)
  cases B.named.symm.trans hn9
  cases B.method.symm.trans h1
  have hcode : meth.code = some c := (Stand.of_body B).code
  cases hcode.symm.trans h2
  refine mz_wor (Q := mz_Z G rm below (va_A (mz_w G.2.2 ad n f) s.heap.size) ad n post (fun _ _ _ => False) (vs.map (mz_v ad)).toArray s) (fun t q => ?_) ?_
  · rcases q with q | ⟨_, _, _, _, _, _, _, _, _, z, _⟩
    · exact q
    · exact z.elim
  exact h (Nat.zero_le _) (Nat.zero_le _) (mz_okL0 hok) (fun _ hh => by cases hh) p e s m _ below meth c (va_A (mz_w G.2.2 ad n f) s.heap.size) s.heap [] _ ad ad n
    ⟨B.exec, B.bytes, hml, B.returns, hown, fun hi => (by cases hi), ⟨B.notSynchronized, fun z => absurd rfl z, fun _ => h5⟩, fun w hw => hts w (List.mem_cons_of_mem _ hw), hns, hK, fun q hq => Or.inr hq⟩
    ⟨hP, hD0.self, va_S.rf, hwf, Nat.le_refl _, fun _ _ => rfl, hxt⟩ (mz_lv0 hlen)
/-- a handler of the table 'hh' for 'ec' at 'pc': its pc -/
def mk_hd (pc : Nat) (ec : String) (hh : List (Nat × Nat × Nat × Nat)) (hpc : Nat) : Prop := ∃ h1 x h2, hh = h1 ++ x :: h2 ∧ (∀ y ∈ h1, y.2.2.2 ≠ 0 ∧ ∃ C, Cond.classLink (nm_Own 13) y.2.2.2 C ∈ nm_Ts ∧ Cond.not (.castable ec C) ∈ nm_Ns) ∧ (x.1 ≤ pc ∧ pc < x.2.1) ∧ x.2.2.2 ≠ 0 ∧ (∃ C, Cond.classLink (nm_Own 13) x.2.2.2 C ∈ nm_Ts ∧ Cond.castable ec C ∈ nm_Ns) ∧ x.2.2.1 = hpc
/-- what stands at a handler: the reference is laid away, a number is answered -/
def mk_ha (cc : ByteArray) (nL hpc : Nat) (v : Int32) : Prop := ∃ i pc1 w, ((decode cc hpc = .ok (.astore i, 2) ∧ pc1 = hpc + 2) ∨ (∃ k : Fin 4, decode cc hpc = .ok (.astore_n k, 1) ∧ (k : Nat) = i ∧ pc1 = hpc + 1)) ∧ i < nL ∧ decode cc pc1 = .ok (.iconst w, 1) ∧ Int32.ofInt w = v ∧ decode cc (pc1 + 1) = .ok (.ireturn, 1)
section MZT
variable {G : mz_G} {X : mz_E} {cc : ByteArray} {nL : Nat} {rm : Room} {post : Option Value → Nat → mz_H → Prop} {thr : String → Nat → mz_H → Prop} {pc : Nat} {l : mz_L} {k1 k2 n : Nat} {f : mz_H}
variable {y : MethodName} {cc' : ByteArray} {nL' : Nat} {ret' : Option FieldType} {rm' : Room} {post' : Option Value → Nat → mz_H → Prop} {thr' : String → Nat → mz_H → Prop} {rest As : List Value} {idx : Nat}
theorem mz_callT {b ci na cn' : Nat} {fs : List Value} {q : vw_C} (hd : decode cc pc = .ok (.invokevirtual idx, 3)) (hlk : Cond.methodLink (nm_Own 13) idx y ∈ nm_Ts) (hw : Cond.instanceMethod y ∈ nm_Ts ∧ Cond.selects y.cls y y ∈ nm_Ts ∧ Cond.initialized y.cls ∈ nm_Ts ∧ Cond.code y cc' nL' ret' ∈ nm_Ts ∧ mz_cl1 y na) (hna : As.length = na) (hyp : plainName y.cls = true) (hcn : y.cls = nm_Own cn') (h13 : cn' ≠ 13) (hlen : (mz_la (.ref b :: As)).length ≤ nL') {l' : mz_L} (hl' : mz_l0 nL' (.ref b :: As) = l')
    (hc : mz_X G X cn' false cc' nL' ret' rm' post' thr' 0 l' [] 0 0 n f) (hb2 : f b = .inr (ci, fs)) (hq : nm_Cl[ci]? = some q) (hqy : q.1 = y.cls) (hrm : mz_rmOk rm rm' nL' k1 k2) (hW : (rest.map fun v => v.category).sum ≤ 8) {st : List Value} (hst : st = As.reverse ++ .ref b :: rest)
    (kk : ∀ v n' f', post' v n' f' → mz_X G X 13 false cc nL (some .int) rm post thr (pc + 3) l (v.toList ++ rest) (k1 + rm'.cells) (k2 + rm'.slots) n' f')
    (kt : ∀ ec n' f', thr' ec n' f' → ∃ hpc v, mk_hd pc ec (nm_Hd cc) hpc ∧ mk_ha cc nL hpc v ∧ post (some (.int v)) n' f') : mz_X G X 13 false cc nL (some .int) rm post thr pc l st k1 k2 n f := by
  subst hst
  subst hl'
  intro hk1 hk2 hol hos p e s m args below meth c A H locs ls ad ad0 n0 ok rep hl
  obtain ⟨hx, hb, hml, hr, hown, hin, hlocks, hts, hns, hK, hA⟩ := id ok
  obtain ⟨rP, rD, rS, rW, rN, rA, rX⟩ := id rep
  obtain ⟨w1, w2, w3, w4, hd1, hd2, hd3⟩ := hw
  have hosA : mz_okS n (.ref b :: As) := mz_okS_c (hos _ (List.mem_append_right _ List.mem_cons_self)) (fun v hv => hos v (List.mem_append_left _ (List.mem_reverse.mpr hv)))
  have hosR : mz_okS n rest := fun v hv => hos v (List.mem_append_right _ (List.mem_cons_of_mem _ hv))
  have hnd : b < n := by
    rcases hosA _ List.mem_cons_self with z | z
    · exact z
    · exfalso
      rw [rW.2.2 b (Nat.le_trans rW.1 z)] at hb2
      have h2 : ci = 1000 := by injection hb2 with h2; injection h2 with h2; exact h2.symm
      rw [h2] at hq
      exact absurd hq nm_Cl_1000
  have hg0 := mz_w_get (tA := G.2.2) (ad := ad) (f := f) hnd
  rw [hb2] at hg0
  obtain ⟨cellB, hcellB, hobjB, hclsB⟩ := va_recv hK rP hq hg0
  rw [hqy] at hclsB
  have hstk : ((As.reverse ++ Value.ref b :: rest).map (mz_v ad)) = (As.map (mz_v ad)).reverse ++ .ref (ad b) :: rest.map (mz_v ad) := by
    rw [List.map_append, List.map_reverse]; rfl
  rw [hstk]
  have hW2 : ((rest.map (mz_v ad)).map fun v => v.category).sum ≤ 8 := by
    rw [List.map_map, show ((fun v : Value => v.category) ∘ mz_v ad) = (fun v => v.category) from funext (mz_v_cat ad)]; exact hW
  intro T hT S
  subst hT
  obtain ⟨mk, methM, hnamed, hmethM, hstM, habM⟩ := Cond.instanceMethod_spec (hts _ w1)
  obtain ⟨methM', cM, hmethM', hcM, hbyM, hmlM, hretM, hloM, hemM, hsigM⟩ := Cond.code_spec hnamed (hts _ w4)
  cases hmethM.symm.trans hmethM'
  obtain ⟨c2, r2, m2, q1, q2, q3, q4, kP, hkP, hkPi⟩ := Cond.selects_spec (hts _ w2)
  cases hclsB.symm.trans q1
  cases (State.methodFound?_of_named hnamed ⟨hd1, hd2⟩).symm.trans q2
  cases hnamed.symm.trans q3
  have hselP : selectMethod e.platform s.vm cellB.cls mk = .method mk := by rw [Launch.admits_selectMethod S.admits]; exact q4
  have hlenA : (As.map (mz_v ad)).length = methM.sig.parameters.length := by
    rw [List.length_map, hna]
    rw [hsigM] at hd3
    injection hd3 with hd3
    exact hd3.symm
  obtain ⟨g, hg⟩ : ∃ g, g = F0 m pc ls ((As.map (mz_v ad)).reverse ++ .ref (ad b) :: rest.map (mz_v ad)) := ⟨_, rfl⟩
  rw [← hg]
  have hgm : g.method = m := by rw [hg]
  obtain ⟨vm₁, X₁, hstep₁⟩ := S.invokevirtual hx hown (hts _ hlk) hnamed hmethM hstM hkP hkPi ⟨hd1, hd2⟩ (a := ad b) (cell := cellB) hcellB (fun z h => by rw [h] at hobjB; cases hobjB) hselP hmethM habM hkP hkPi (g := g) hgm (argsL := As.map (mz_v ad)) (rest := rest.map (mz_v ad)) hlenA (by rw [hg]) (by rw [hb, hg]; exact hd)
  obtain ⟨g', hg'⟩ : ∃ g', g' = { g with stack := rest.map (mz_v ad) } := ⟨_, rfl⟩
  have hgm' : g'.method = m := by rw [hg']; exact hgm
  have hpc' : g'.pc = pc := by rw [hg', hg]
  have hsz' : g'.locals.size = c.maxLocals := by rw [hg', hg, hml]; exact hl.1
  have hdg' : decode c.code g'.pc = .ok (.invokevirtual idx, 3) := by rw [hb, hpc']; exact hd
  obtain ⟨k9, hk9, hnm9⟩ := className_of_methodNamed hnamed
  have hpk : (T.setVm vm₁).plainMethod mk := X₁.warmed.plainAt (fun k hk => by cases hk9.symm.trans hk; rw [hnm9]; exact hyp)
  obtain ⟨Y, hent⟩ := X₁.into (g := g') hgm' hsz' hdg' (mk := mk) (methk := methM) (ck := cM) (Value.ref (ad b) :: As.map (mz_v ad)).toArray (R' := rm') (by rw [X₁.warmed.alike.method?]; exact hmethM) hcM hloM hpk hrm.1.1 (by
    have e0 : g'.monitorRoom = 0 := by rw [hg', hg]
    have e1 : (g'.stack.map fun v => v.category).sum ≤ 8 := by rw [hg']; exact hW2
    have e2 := hrm.1.2
    rw [hmlM]
    omega) hrm.2.1 hrm.2.2
  have hown' : (T.setVm vm₁).vm.findClass (nm_Own cn') = some mk.cls := by rw [← hcn]; exact findClass_of_methodNamed (X₁.named hnamed)
  have hpcb : mz_pc G X ad T.heap.size (.ref b :: As) n f ((Value.ref b :: As).map (mz_v ad)).toArray ((T.setVm vm₁).calling g' mk ((Value.ref b :: As).map (mz_v ad)).toArray) := mz_pc_blind _ _ g' mk (mz_pc_at (vs := .ref b :: As) hns hK hA (fun _ _ h => h) rep (T.setVm vm₁) rfl X₁.warmed)
  obtain ⟨-, hpsz, hpP, hpK, hpD, hpN, hpX⟩ := hpcb
  have hE : entryFrame mk (Value.ref (ad b) :: As.map (mz_v ad)).toArray cM.maxLocals = F0 mk 0 (lg_sl ((Value.ref b :: As).map (mz_v ad)) ++ List.replicate (nL' - (lg_sl ((Value.ref b :: As).map (mz_v ad))).length) Slot.unset).toArray [] := by
    rw [hmlM]
    exact lg_entry_eq ..
  obtain ⟨t, ht, hzz⟩ := hc (Nat.zero_le _) (Nat.zero_le _) (mz_okL0 hosA) (fun _ hh => by cases hh) p e ((T.setVm vm₁).calling g' mk ((Value.ref b :: As).map (mz_v ad)).toArray) mk ((Value.ref b :: As).map (mz_v ad)).toArray (.java g' :: below) methM cM (va_A (mz_w G.2.2 ad n f) T.heap.size) T.heap [] _ ad ad n
    ⟨hx, hbyM, hmlM, hretM, hown', fun h => (by cases h), ⟨hloM, fun _ => hemM, fun h => absurd h h13⟩, fun w hw => word_at (U := (T.setVm vm₁).calling g' mk ((Value.ref b :: As).map (mz_v ad)).toArray) X₁.warmed (good_of_word (nm_good w hw)) (hts w hw), hpN, hpK, fun q hq => Or.inr hq⟩
    ⟨hpP, hpD.self, va_S.rf, rW, Nat.le_refl _, fun _ _ => rfl, hpX⟩ (mz_lv0 hlen) (((T.setVm vm₁).setTop g').pushFrame (.java (entryFrame mk (Value.ref (ad b) :: As.map (mz_v ad)).toArray cM.maxLocals))) rfl Y
  have ht2 : Steps p.tables e (.java g' :: below) ((((T.setVm vm₁).setTop g').pushFrame (.java (entryFrame mk (Value.ref (ad b) :: As.map (mz_v ad)).toArray cM.maxLocals))).setTop (entryFrame mk (Value.ref (ad b) :: As.map (mz_v ad)).toArray cM.maxLocals)) t := by
    have q := ht
    rw [show F0 mk 0 (lg_sl ((Value.ref b :: As).map (mz_v ad)) ++ List.replicate (nL' - (lg_sl ((Value.ref b :: As).map (mz_v ad))).length) Slot.unset).toArray (List.map (mz_v ad) []) = entryFrame mk (Value.ref (ad b) :: As.map (mz_v ad)).toArray cM.maxLocals from hE.symm] at q
    exact q
  have hFc : ∀ q, va_A (mz_w G.2.2 ad n f) T.heap.size q → A q := by
    intro q hq
    rcases hq with ⟨k, e, hk⟩ | hq
    · exact rD.2 k _ hk
    · exact hA q (Nat.le_trans rS.1 hq)
  rcases hzz with ⟨o, hrun, hend, ⟨v, ad', n', f', hv, hp, hP1, hD1, ⟨hz, hk⟩, hW1, hn1, ha1, hov⟩, L, ⟨-, hWe, hsame⟩, hL⟩ | ⟨xa, ec, cell, ad', n', f', L, hrun, hend, hp, hcell, hobj, hunk, hcls, hP1, hD1, ⟨hz, hk⟩, hW1, hn1, ha1, hWe, hsame, hL⟩
  · subst hv
    obtain ⟨T', X', hW', hB', hteq⟩ := X₁.outOf hgm' hdg' hend hWe hsame
    have e1 : T'.heap = t.heap := by first | (rw [hteq]; done) | (rw [hteq]; rfl)
    have hn2 : n0 ≤ n' := Nat.le_trans rN hn1
    have ha2 : ∀ k, k < n0 ∨ mz_e0 ≤ k → ad' k = ad0 k := fun k hk' => (ha1 k (hk'.imp (fun z => Nat.lt_of_lt_of_le z rN) id)).trans (rA k hk')
    have hokL' : mz_okL n' l := fun w hw => mz_okV_mono hn1 (hol w hw)
    have hokS' : mz_okS n' (v.toList ++ rest) := by
      intro w hw
      rcases List.mem_append.mp hw with q | q
      · cases v with
        | none => cases q
        | some x =>
          rcases List.mem_cons.mp q with q | q
          · rw [q]; exact hov x rfl
          · cases q
      · exact mz_okV_mono hn1 (hosR w q)
    obtain ⟨t2, a1, b1⟩ := kk v n' f' hp hrm.2.1 hrm.2.2 hokL' hokS' p e s m args below meth c A T'.heap (locs ++ L) ls ad' ad0 n0 ok
      ⟨by rw [e1]; exact hP1, hD1.weaken (fun _ q _ hq => hFc _ hq), ⟨Nat.le_trans rS.1 (by rw [e1]; exact hz), fun q h1 h2 => by rw [e1, hk q (Nat.lt_of_lt_of_le h1 rS.1) (fun z => h2 (hFc q z))]; exact rS.2.1 q h1 h2, fun q hq => by
        rcases List.mem_append.mp hq with h | h
        · exact rS.2.2 q h
        · exact hFc _ (hL q h)⟩, hW1, hn2, ha2, mz_xt_ad (fun k hk' => ha1 k (Or.inr hk')) rX⟩ (mz_lv_eq ha1 hol hl) T' rfl X'
    refine ⟨t2, hstep₁ t2 (fun acts => ?_), b1⟩
    rw [← hg', hent acts]
    refine (mk_weaken (mid := [.java g']) ht2).trans ?_
    rw [hteq]
    have eS : (v.toList ++ rest).map (mz_v ad') = (v.map (mz_v ad')).toList ++ rest.map (mz_v ad) := by
      rw [List.map_append, mz_s_eq ha1 hosR]
      cases v <;> rfl
    rw [eS] at a1
    subst hg'
    subst hg
    exact a1
  · obtain ⟨T', X', hW', hB', hteq⟩ := X₁.outOfThrown hgm' hend hWe hsame
    have e1 : T'.heap = t.heap := by first | (rw [hteq]; done) | (rw [hteq]; rfl)
    have hn2 : n0 ≤ n' := Nat.le_trans rN hn1
    have ha2 : ∀ k, k < n0 ∨ mz_e0 ≤ k → ad' k = ad0 k := fun k hk' => (ha1 k (hk'.imp (fun z => Nat.lt_of_lt_of_le z rN) id)).trans (rA k hk')
    obtain ⟨hpc, v, ⟨h1, x, h2, hhh, hpas, hcov, hx0, ⟨C, hlC, hcC⟩, hxe⟩, ⟨i, pc1, w, hast, hiL, hic, hwv, hir⟩, hpost⟩ := kt ec n' f' hp
    have htab := hlocks.2.2 rfl
    rw [hhh] at htab
    obtain ⟨l1, l2, hl12, hm1, hm2⟩ := List.map_eq_append_iff.mp htab
    obtain ⟨x', l3, hl3, hx', hm3⟩ := List.map_eq_cons_iff.mp hm2
    subst hl3
    subst hx'
    subst hxe
    have hfc : s.vm.findClass ec = some cell.cls := by
      have z := hcls
      rw [show ((T.setVm vm₁).calling g' mk ((Value.ref b :: As).map (mz_v ad)).toArray).vm.findClass ec = s.vm.findClass ec from X₁.warmed.alike.findClass ec _] at z
      exact z
    have hcell' : T'.heap[xa]? = some cell := by rw [e1]; exact hcell
    obtain ⟨cc1, ct1, hq1, hq2, hq3⟩ := Cond.castable_spec (va_Nw.use (A := args) rfl (hns _ hcC))
    cases hfc.symm.trans hq1
    obtain ⟨hrow, hkk⟩ := X'.catches_of_link hown (x := x') hx0 (hts _ hlC) hq2 hq3
    have hpl : e.platform.magicAccessors = ({} : Platform).magicAccessors := by rw [S.admits.platform]
    obtain ⟨vm', X'', hgo⟩ := X'.caughtThrough xa (g := g') hgm' hcell' hobj hkk l1 x' l3 hl12 (fun y hy => by
      obtain ⟨h0, C', z1, z2⟩ := hpas _ (by rw [← hm1]; exact List.mem_map_of_mem hy)
      exact RowPassed.of_words hpl hown h0 (hts _ z1) hfc (hns _ z2)) (by rw [hpc']; simp [covers]; exact hcov) hrow
    have hlocsA : ∀ q ∈ locs ++ L, A q.base := fun q hq => by
      rcases List.mem_append.mp hq with h | h
      · exact rS.2.2 q h
      · exact hFc _ (hL q h)
    have rS' : va_S A s.heap T'.heap (locs ++ L) := ⟨Nat.le_trans rS.1 (by rw [e1]; exact hz), fun q h1 h2 => by rw [e1, hk q (Nat.lt_of_lt_of_le h1 rS.1) (fun z => h2 (hFc q z))]; exact rS.2.1 q h1 h2, hlocsA⟩
    have fin : ∀ ls' : Array Slot, W p G.1 e rm s m args below meth c T'.heap (locs ++ L) (k1 + rm'.cells) (k2 + rm'.slots) (mz_Z G rm below A ad0 n0 post thr args s) (F0 m pc1 ls' []) := fun ls' => lv_iconst hx hb hic hwv (W.widen (k := rm.cells) (n := rm.slots) hrm.2.1 hrm.2.2 <| mz_wor (fun _ q => Or.inl q) <| W.zret hx hb hr rfl (fun t ht hW => ⟨some (.int v), ad', n', f', rfl, hpost, by rw [ht, e1]; exact hP1, hD1.weaken (fun _ q _ hq => hFc _ hq), rS'.F ht, hW1, hn2, ha2, fun y hy => by cases hy; trivial⟩) hlocsA hir hlocks.1)
    have hrun2 : W p G.1 e rm s m args below meth c T'.heap (locs ++ L) (k1 + rm'.cells) (k2 + rm'.slots) (mz_Z G rm below A ad0 n0 post thr args s) (F0 m x'.handlerPc ls [.ref xa]) := by
      rcases hast with ⟨z1, z2⟩ | ⟨k, z1, z2, z3⟩
      · subst z2; exact lv_astore hx hb z1 hl hiL rfl (fun ls' _ => fin ls')
      · subst z3; exact lv_astore_n hx hb z1 z2 hl hiL rfl (fun ls' _ => fin ls')
    obtain ⟨t2, a1, b1⟩ := hrun2 (T'.setVm vm') rfl X''
    refine ⟨t2, hstep₁ t2 (fun acts => ?_), b1⟩
    rw [← hg', hent acts]
    refine (mk_weaken (mid := [.java g']) ht2).trans ?_
    rw [hteq, X'.pushThrowing_eq g' xa]
    refine hgo t2 ?_
    subst hg'
    subst hg
    exact a1
end MZT
section MZU
variable {G : mz_G} {X X' : mz_E} {cn : Nat} {ini : Bool} {cc : ByteArray} {nL : Nat} {ret : Option FieldType} {rm : Room} {post : Option Value → Nat → mz_H → Prop} {thr : String → Nat → mz_H → Prop} {pc : Nat} {l : mz_L} {k1 k2 n : Nat} {f : mz_H}
variable {y : MethodName} {cc' : ByteArray} {nL' : Nat} {ret' : Option FieldType} {rm' : Room} {post' : Option Value → Nat → mz_H → Prop} {rest As : List Value} {idx : Nat}
/-- a call of such a method -/
theorem mz_callSW {na : Nat} (hd : decode cc pc = .ok (.invokestatic idx, 3)) (hw : Cond.methodLink (nm_Own cn) idx y ∈ nm_Ts ∧ Cond.static y ∈ nm_Ts ∧ Cond.initialized y.cls ∈ nm_Ts ∧ Cond.codeWith y cc' nL' ret' (nm_Hd cc') ∈ nm_Ts ∧ mz_cl1 y na) (hna : As.length = na) (hX : ∀ a q, X' a = some q → X a = some q) (hc : mz_CtW G X' y cc' nL' ret' rm' As n f post') (hrm : mz_rmOk rm rm' nL' k1 k2) (hW : (rest.map fun v => v.category).sum ≤ 8)
    {st : List Value} (hst : st = As.reverse ++ rest) (kk : ∀ v n' f', post' v n' f' → mz_X G X cn ini cc nL ret rm post thr (pc + 3) l (v.toList ++ rest) (k1 + rm'.cells) (k2 + rm'.slots) n' f') : mz_X G X cn ini cc nL ret rm post thr pc l st k1 k2 n f := by
  subst hst
  intro hk1 hk2 hol hos p e s m args below meth c A H locs ls ad ad0 n0 ok rep hl
  obtain ⟨hx, hb, hml, hr, hown, hin, hlocks, hts, hns, hK, hA⟩ := id ok
  obtain ⟨rP, rD, rS, rW, rN, rA, rX⟩ := id rep
  obtain ⟨hlk, w1, w3, w4, hd1, hd2, hd3⟩ := hw
  have hosA : mz_okS n As := fun v hv => hos v (List.mem_append_left _ (List.mem_reverse.mpr hv))
  have hosR : mz_okS n rest := fun v hv => hos v (List.mem_append_right _ hv)
  have hM := hc ad H.size rW hosA
  have hst : ((As.reverse ++ rest).map (mz_v ad)) = (As.map (mz_v ad)).reverse ++ rest.map (mz_v ad) := by
    rw [List.map_append, List.map_reverse]
  rw [hst]
  have hW2 : ((rest.map (mz_v ad)).map fun v => v.category).sum ≤ 8 := by
    rw [List.map_map, show ((fun v : Value => v.category) ∘ mz_v ad) = (fun v => v.category) from funext (mz_v_cat ad)]; exact hW
  have hps : PreS s H (mz_pc G X' ad H.size As n f) (As.map (mz_v ad)) := ⟨mz_pc_blind, mz_pc_at (vs := As) hns hK hA hX rep⟩
  have hgw : ∀ w ∈ mz_wsW y cc' nL' ret', ∀ a' U, s.WarmedH U.vm → w.before a' U = true := fun w hq a' U hWU => by
    have hq' : w ∈ nm_Ts := by
      rcases List.mem_cons.mp hq with rfl | z
      · exact w4
      · exact z
    exact word_at hWU (good_of_word (nm_good w hq')) (hts w hq')
  have hB : Back G.1 rm p e below s args y 3 8 (PreOf rm rm'.cells rm'.slots (mz_pc G X' ad H.size As n f)) (PostOf (mz_q G (va_A (mz_w G.2.2 ad n f) H.size) ad n post') rm'.cells rm'.slots (va_A (mz_w G.2.2 ad n f) H.size)) := va_backW (hh := nm_Hd cc') (bytes := cc') (maxL := nL') (ret := ret') hM hps.1 rfl rfl hrm.1.1 hrm.1.2 hgw List.mem_cons_self (fun a' U hWU => word_at hWU (good_of_word (nm_good _ w3)) (hts _ w3))
  refine mz_cont (rm' := rm') (post' := post') (a := (As.map (mz_v ad)).toArray) ?_ hrm.2 hol hosR ok rep hl kk
  intro T hT S
  obtain ⟨mk, methM, cM, hnamed, hmethM, -, -, -, -, -, -, hsigM⟩ := Cond.codeWith_spec (hts _ w4)
  have hstatic : methM.isStatic = true := Cond.static_spec hnamed hmethM (hts _ w1)
  obtain ⟨kP, hkP, -⟩ := className_of_methodNamed hnamed
  have hinitP : kP.init = .initialized := Cond.initialized_spec (findClass_of_methodNamed hnamed) hkP (hts _ w3)
  have hlenA : (As.map (mz_v ad)).length = methM.sig.parameters.length := by
    rw [List.length_map, hna]
    rw [hsigM] at hd3
    injection hd3 with hd3
    exact hd3.symm
  obtain ⟨vm₁, X₁, hstep₁⟩ := S.invokestatic hx hown (hts _ hlk) hnamed hmethM hstatic hkP hinitP ⟨hd1, hd2⟩ (g := F0 m pc ls ((As.map (mz_v ad)).reverse ++ rest.map (mz_v ad))) rfl (argsL := As.map (mz_v ad)) (rest := rest.map (mz_v ad)) hlenA rfl (by rw [hb]; exact hd)
  obtain ⟨v, ⟨U', l2, c2, s2⟩, X', ⟨g', mk', t, L, e1, e2, hq, h1, hL, h2, h3⟩, hsteps⟩ := hB m meth c ⟨T.setVm vm₁, locs, k1, k2⟩ (F0 m pc ls (rest.map (mz_v ad))) (.invokestatic idx) mk (As.map (mz_v ad)).toArray X₁ rfl (hl.1.trans hml.symm) (by rw [hb]; exact hd) (lv_room hW2) (X₁.named hnamed) ⟨hrm.2.1, hrm.2.2, hps.2 (T.setVm vm₁) hT X₁.warmed⟩
  dsimp only [Pt.U, Pt.locs, Pt.cells, Pt.slots] at X' e1 e2 h1 h2 h3 hsteps
  subst h1; subst h2; subst h3
  exact ⟨v, (T.setVm vm₁).calling g' mk' (As.map (mz_v ad)).toArray, t, U', L, hT, X', hL, e1, e2, hq, fun target h => hstep₁ _ fun acts => by rw [doInvoke_state]; exact hsteps.trans h⟩
end MZU
end
