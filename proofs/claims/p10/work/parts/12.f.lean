/-! the decks together -/
def s8 (sz : Nat → Nat) : Nat := sz 0 + sz 1 + sz 2 + sz 3 + sz 4 + sz 5 + sz 6 + sz 7
theorem i8 {i : Nat} (h : i < 8) : i = 0 ∨ i = 1 ∨ i = 2 ∨ i = 3 ∨ i = 4 ∨ i = 5 ∨ i = 6 ∨ i = 7 := by omega
theorem s8_up (sz : Nat → Nat) {i : Nat} (hi : i < 8) (v : Nat) : s8 (va_up sz i v) + sz i = s8 sz + v := by
  rcases i8 hi with rfl | rfl | rfl | rfl | rfl | rfl | rfl | rfl <;> simp [s8, va_up] <;> omega
theorem va_up_n {α : Type} {g : Nat → α} {i j : Nat} {v : α} (h : j ≠ i) : va_up g i v j = g j := by simp [va_up, h]
theorem va_up_s {α : Type} {g : Nat → α} {i : Nat} {v : α} : va_up g i v i = v := by simp [va_up]
theorem s8_le (sz : Nat → Nat) {i : Nat} (hi : i < 8) : sz i ≤ s8 sz := by have := s8_up sz hi 0; omega
theorem s8_le2 (sz : Nat → Nat) {i j : Nat} (hi : i < 8) (hj : j < 8) (h : i ≠ j) : sz i + sz j ≤ s8 sz := by
  have h1 := s8_up sz hi 0
  have h2 := s8_up (va_up sz i 0) hj 0
  rw [va_up_n (Ne.symm h)] at h2
  omega
theorem s8_le3 (sz : Nat → Nat) {i j k : Nat} (hi : i < 8) (hj : j < 8) (hk : k < 8) (h : i ≠ j) (h2 : i ≠ k) (h3 : j ≠ k) : sz i + sz j + sz k ≤ s8 sz := by
  have q1 := s8_up sz hi 0
  have q2 := s8_up (va_up sz i 0) hj 0
  have q3 := s8_up (va_up (va_up sz i 0) j 0) hk 0
  rw [va_up_n (Ne.symm h)] at q2
  rw [va_up_n (Ne.symm h3), va_up_n (Ne.symm h2)] at q3
  omega
theorem Dk_mono {f : mz_H} {D A r K K' : Nat} {c : Nat → Nat} (h : Dk f D A r K c) (hK : K ≤ K') : Dk f D A r K' c := by
  obtain ⟨g, e1, e2, e3⟩ := h
  exact ⟨g, e1, e2, Ps_mono e3 hK⟩
theorem Dk0_mono {f : mz_H} {D A r K K' : Nat} (h : ∃ c, Dk f D A r K c) (hK : K ≤ K') : ∃ c, Dk f D A r K' c := by
  obtain ⟨c, h⟩ := h
  exact ⟨c, Dk_mono h hK⟩
theorem CD_one {f F : mz_H} {K K' i r : Nat} {sz c1 : Nat → Nat} {cd : Nat → Nat → Nat} (h : CD f K sz cd) (hi : i < 8) (hK : K ≤ K') (hd : Dk F (126 + 2 * i) (127 + 2 * i) r K' c1) (he : ∀ q, 126 ≤ q → q < 142 → q ≠ 126 + 2 * i → q ≠ 127 + 2 * i → F q = f q) (hs : K + r = K' + sz i) : CD F K' (va_up sz i r) (va_up cd i c1) := by
  refine ⟨fun j hj => ?_, ?_⟩
  · by_cases e : j = i
    · subst e; rw [va_up_s, va_up_s]; exact hd
    · rw [va_up_n e, va_up_n e]; exact Dk_mono (Dk_eq (h.1 j hj) (he _ (by omega) (by omega) (by omega) (by omega)) (he _ (by omega) (by omega) (by omega) (by omega))) hK
  · have h1 : s8 sz = K := h.2
    have h2 := s8_up sz hi r
    show s8 (va_up sz i r) = K'
    omega
theorem CD_two {f F : mz_H} {K i j r1 r2 : Nat} {sz c1 c2 : Nat → Nat} {cd : Nat → Nat → Nat} (h : CD f K sz cd) (hi : i < 8) (hj : j < 8) (hij : i ≠ j) (hd : Dk F (126 + 2 * i) (127 + 2 * i) r1 K c1) (hd2 : Dk F (126 + 2 * j) (127 + 2 * j) r2 K c2) (he : ∀ q, 126 ≤ q → q < 142 → q ≠ 126 + 2 * i → q ≠ 127 + 2 * i → q ≠ 126 + 2 * j → q ≠ 127 + 2 * j → F q = f q) (hs : r1 + r2 = sz i + sz j) : CD F K (va_up (va_up sz i r1) j r2) (va_up (va_up cd i c1) j c2) := by
  refine ⟨fun m hm => ?_, ?_⟩
  · by_cases e : m = j
    · subst e; rw [va_up_s, va_up_s]; exact hd2
    · rw [va_up_n e, va_up_n e]
      by_cases e2 : m = i
      · subst e2; rw [va_up_s, va_up_s]; exact hd
      · rw [va_up_n e2, va_up_n e2]; exact Dk_eq (h.1 m hm) (he _ (by omega) (by omega) (by omega) (by omega) (by omega) (by omega)) (he _ (by omega) (by omega) (by omega) (by omega) (by omega) (by omega))
  · have h1 : s8 sz = K := h.2
    have h2 := s8_up sz hi r1
    have h3 := s8_up (va_up sz i r1) hj r2
    rw [va_up_n (Ne.symm hij)] at h3
    show s8 (va_up (va_up sz i r1) j r2) = K
    omega
theorem CD_three {f F : mz_H} {K i j k r1 r2 r3 : Nat} {sz c1 c2 c3 : Nat → Nat} {cd : Nat → Nat → Nat} (h : CD f K sz cd) (hi : i < 8) (hj : j < 8) (hk : k < 8) (hij : i ≠ j) (hik : i ≠ k) (hjk : j ≠ k) (hd : Dk F (126 + 2 * i) (127 + 2 * i) r1 K c1) (hd2 : Dk F (126 + 2 * j) (127 + 2 * j) r2 K c2) (hd3 : Dk F (126 + 2 * k) (127 + 2 * k) r3 K c3) (he : ∀ q, 126 ≤ q → q < 142 → q ≠ 126 + 2 * i → q ≠ 127 + 2 * i → q ≠ 126 + 2 * j → q ≠ 127 + 2 * j → q ≠ 126 + 2 * k → q ≠ 127 + 2 * k → F q = f q) (hs : r1 + r2 + r3 = sz i + sz j + sz k) : CD F K (va_up (va_up (va_up sz i r1) j r2) k r3) (va_up (va_up (va_up cd i c1) j c2) k c3) := by
  refine ⟨fun m hm => ?_, ?_⟩
  · by_cases e : m = k
    · subst e; rw [va_up_s, va_up_s]; exact hd3
    · rw [va_up_n e, va_up_n e]
      by_cases e2 : m = j
      · subst e2; rw [va_up_s, va_up_s]; exact hd2
      · rw [va_up_n e2, va_up_n e2]
        by_cases e3 : m = i
        · subst e3; rw [va_up_s, va_up_s]; exact hd
        · rw [va_up_n e3, va_up_n e3]; exact Dk_eq (h.1 m hm) (he _ (by omega) (by omega) (by omega) (by omega) (by omega) (by omega) (by omega) (by omega)) (he _ (by omega) (by omega) (by omega) (by omega) (by omega) (by omega) (by omega) (by omega))
  · have h1 : s8 sz = K := h.2
    have h2 := s8_up sz hi r1
    have h3 := s8_up (va_up sz i r1) hj r2
    have h4 := s8_up (va_up (va_up sz i r1) j r2) hk r3
    rw [va_up_n (Ne.symm hij)] at h3
    rw [va_up_n (Ne.symm hjk), va_up_n (Ne.symm hik)] at h4
    show s8 (va_up (va_up (va_up sz i r1) j r2) k r3) = K
    omega
/-- a call that leaves the boards and the tabulator alone -/
theorem CI_mk {f F : mz_H} {K K' x n' : Nat} {sz : Nat → Nat} {cd s : Nat → Nat → Nat} (h3 : CM f K) (hT : Tb f x) (hB : CB f) (c3 : ∃ g, F 3 = aI 16 g) (c4 : ∃ u w, F 4 = .inr (5, [.int u, .int w])) (c5 : ∃ v, F 5 = .inr (9, [.ref 6, .ref 7, .int v])) (c6 : ∃ g, F 6 = aI 11 g) (c7 : ∃ g, F 7 = aQ 6 200 g) (c8 : ∃ br, F 8 = .inr (3, [.ref 9, .ref 11, .int br])) (c9 : ∃ c, Dk F 9 10 0 K' c) (c11 : ∃ c, Dk F 11 12 0 K' c) (c14 : ∃ cl, F 14 = .inr (6, [.int (nI 0), .ref 15, .int cl])) (c15 : ∃ g, F 15 = aI 16 g)
    (he : ∀ q, (q < 3 ∨ q = 13 ∨ (16 ≤ q ∧ q < 126) ∨ (142 ≤ q ∧ q < 172) ∨ q = 1000000000001) → F q = f q) (hD : CD F K' sz cd) (hC : Cd F K' s) (hK : K' ≤ 200) (hn : n' = 172 + 2 * K') : CI F n' K' sz cd s ∧ FrB f F := by
  obtain ⟨a1, a2, a3, -, -, -, -, -, -, -, -, a12, -, -, a15⟩ := h3
  refine ⟨⟨x, hn, hK, ⟨(he 0 (by decide)).trans a1, (he 1 (by decide)).trans a2, (he 2 (by decide)).trans a3, c3, c4, c5, c6, c7, c8, c9, c11, (he 13 (by decide)).trans a12, c14, c15, (he _ (by decide)).trans a15⟩, Tb_eq hT (fun q z1 z2 => he q (by omega)), ?_, hD, hC⟩, fun q z1 z2 => he q (by omega)⟩
  intro i hi
  obtain ⟨w, A, T, L, q1, q2⟩ := hB i hi
  refine ⟨w, A, T, L, ?_, q2⟩
  unfold Bd
  rw [he _ (by omega), he _ (by omega), he _ (by omega), he _ (by omega)]
  exact q1
theorem CI_rf {f : mz_H} {n : Nat} {K : Nat} {sz : Nat → Nat} {cd s : Nat → Nat → Nat} (h : CI f n K sz cd s) : CI f n K sz cd s ∧ FrB f f := ⟨h, fun _ _ _ => rfl⟩
theorem CI_rg {f : mz_H} {n : Nat} {K : Nat} {sz : Nat → Nat} {cd s : Nat → Nat → Nat} (h : CI f n K sz cd s) : CI f n K sz cd s ∧ FrB f f ∧ MU f f no_U := ⟨h, fun _ _ _ => rfl, MU_rf f⟩
theorem CI_3 {P Q R : Prop} (hR : R) (h : P ∧ Q) : P ∧ Q ∧ R := ⟨h.1, h.2, hR⟩
/-- fault's answer -/
def ftV (m : mS) (x : Int32) : Int32 := if x.toInt = 0 then m.1 else if x.toInt = 1 then m.2.1 else -1
def faP (f : mz_H) (n K : Nat) (sz : Nat → Nat) (cd s : Nat → Nat → Nat) (m : mS) (x : Int32) (v : Option Value) (n' : Nat) (f' : mz_H) : Prop := v = some (.int (ftV m x)) ∧ n' = n ∧ CI f' n K sz cd s ∧ FrB f f' ∧ MU f f' no_U
set_option maxRecDepth 20000 in
theorem c_Office_fault (G : mz_G) (n : Nat) (f : mz_H) {x : Int32} {K : Nat} {sz : Nat → Nat} {cd s : Nat → Nat → Nat} (h : CI f n K sz cd s) {m : mS} (hm : MC f m) :
    mz_Ct G mk_P y_Office_fault b_Office_fault 2 (some .int) (r_Office_fault 0 0) [.ref 0, .int x] n f (faP f n K sz cd s m x) := by
  obtain ⟨lx, h1, h2, h3, h4, h5, h6, h7⟩ := id h
  have ho := h3.1
  have hl := hm.1
  refine mk_Ct 0 false [some (.ref 0), some (.int x)] (by decide) rfl (by decide) (Nat.le_of_ble_eq_true rfl) rfl ?_
  refine mz_go [1] 20 ?_
  simp only [mz_r0, ev_0, ev_1, ev_2, ev_3, ev_4, ev_5, ev_6, ev_7, ev_8, ev_9, ev_10, ev_11, ev_12, ev_13, ev_14, ev_15, ev_16, ev_17, ev_18, ev_19, ev_20, ev_21, ev_22, ev_23, ev_24, ev_25, ev_26, ev_27, ev_28, ev_29, ev_30, ev_31, ev_32, ev_33, ev_34, ev_35, ev_36, ev_37, ev_38, ev_39, ev_40, ev_41, ev_42, ev_43, ev_44, ev_45, ev_46, ev_47, ev_48, ev_49, ev_50, ev_51, ev_52, ev_53, ev_54, ev_55, ev_56, ev_57, ev_58, ev_59, ev_60, ev_61, ev_62, ev_63, ev_64, ev_65, ev_66, ev_67, ev_68, ev_69, ev_70, ev_71, ev_72, ev_73, ev_74, ev_75, ev_76, ev_77, ev_78, ev_79, ev_80, ev_81, ev_82, ev_83, mk_lit, mk_fin, mk_cat, mk_fit, mk_nar, mk_fld, mk_cls, mk_ty, mk_isr, List.mem_cons, List.not_mem_nil, or_false, or_true, false_or, true_or, Nat.reduceEqDiff, Nat.reduceAdd, Nat.reduceSub, Nat.reduceLT, Nat.reduceLeDiff, ↓reduceIte, if_true, if_false, List.getElem?_cons_zero, List.getElem?_cons_succ, List.set_cons_zero, List.set_cons_succ, List.length_cons, List.length_nil, mz_s1, mz_s2, mz_cl, true_and, and_true, false_and, and_false, List.append_nil, mk_b0, mk_b1, mk_b2, mk_bn, Value.int.injEq, Option.toList_some, Option.toList_none, List.cons_append, List.nil_append, Classical.not_not, Option.some.injEq, reduceCtorEq, ne_eq, not_true_eq_false, not_false_eq_true, false_implies, true_implies, mz_rl d_Office_fault_0, nF_0]
  by_cases q0 : x.toInt = 0
  · refine mz_look (dflt := 43) (ps := #[(0, 27), (1, 35)]) (len := 27) (off := 27) (by simp only [d_Office_fault]) (by decide) (by rw [q0]; decide) (by decide) ?_
    refine mz_go [] 20 ?_
    simp only [show mz_t 1 27 = 28 from rfl]
    simp only [mz_r0, ev_0, ev_1, ev_2, ev_3, ev_4, ev_5, ev_6, ev_7, ev_8, ev_9, ev_10, ev_11, ev_12, ev_13, ev_14, ev_15, ev_16, ev_17, ev_18, ev_19, ev_20, ev_21, ev_22, ev_23, ev_24, ev_25, ev_26, ev_27, ev_28, ev_29, ev_30, ev_31, ev_32, ev_33, ev_34, ev_35, ev_36, ev_37, ev_38, ev_39, ev_40, ev_41, ev_42, ev_43, ev_44, ev_45, ev_46, ev_47, ev_48, ev_49, ev_50, ev_51, ev_52, ev_53, ev_54, ev_55, ev_56, ev_57, ev_58, ev_59, ev_60, ev_61, ev_62, ev_63, ev_64, ev_65, ev_66, ev_67, ev_68, ev_69, ev_70, ev_71, ev_72, ev_73, ev_74, ev_75, ev_76, ev_77, ev_78, ev_79, ev_80, ev_81, ev_82, ev_83, mk_lit, mk_fin, mk_cat, mk_fit, mk_nar, mk_fld, mk_cls, mk_ty, mk_isr, List.mem_cons, List.not_mem_nil, or_false, or_true, false_or, true_or, Nat.reduceEqDiff, Nat.reduceAdd, Nat.reduceSub, Nat.reduceLT, Nat.reduceLeDiff, ↓reduceIte, if_true, if_false, List.getElem?_cons_zero, List.getElem?_cons_succ, List.set_cons_zero, List.set_cons_succ, List.length_cons, List.length_nil, mz_s1, mz_s2, mz_cl, true_and, and_true, false_and, and_false, List.append_nil, mk_b0, mk_b1, mk_b2, mk_bn, Value.int.injEq, Option.toList_some, Option.toList_none, List.cons_append, List.nil_append, Classical.not_not, Option.some.injEq, reduceCtorEq, ne_eq, not_true_eq_false, not_false_eq_true, false_implies, true_implies, mz_rl d_Office_fault_28, mz_rl d_Office_fault_29, mz_rl d_Office_fault_32, mz_rl d_Office_fault_35, nF_0, ho, hl]
    exact ⟨by unfold ftV; rw [if_pos q0], rfl, h, fun _ _ _ => rfl, MU_rf f⟩
  · by_cases q1 : x.toInt = 1
    · refine mz_look (dflt := 43) (ps := #[(0, 27), (1, 35)]) (len := 27) (off := 35) (by simp only [d_Office_fault]) (by decide) (by rw [q1]; decide) (by decide) ?_
      refine mz_go [] 20 ?_
      simp only [show mz_t 1 35 = 36 from rfl]
      simp only [mz_r0, ev_0, ev_1, ev_2, ev_3, ev_4, ev_5, ev_6, ev_7, ev_8, ev_9, ev_10, ev_11, ev_12, ev_13, ev_14, ev_15, ev_16, ev_17, ev_18, ev_19, ev_20, ev_21, ev_22, ev_23, ev_24, ev_25, ev_26, ev_27, ev_28, ev_29, ev_30, ev_31, ev_32, ev_33, ev_34, ev_35, ev_36, ev_37, ev_38, ev_39, ev_40, ev_41, ev_42, ev_43, ev_44, ev_45, ev_46, ev_47, ev_48, ev_49, ev_50, ev_51, ev_52, ev_53, ev_54, ev_55, ev_56, ev_57, ev_58, ev_59, ev_60, ev_61, ev_62, ev_63, ev_64, ev_65, ev_66, ev_67, ev_68, ev_69, ev_70, ev_71, ev_72, ev_73, ev_74, ev_75, ev_76, ev_77, ev_78, ev_79, ev_80, ev_81, ev_82, ev_83, mk_lit, mk_fin, mk_cat, mk_fit, mk_nar, mk_fld, mk_cls, mk_ty, mk_isr, List.mem_cons, List.not_mem_nil, or_false, or_true, false_or, true_or, Nat.reduceEqDiff, Nat.reduceAdd, Nat.reduceSub, Nat.reduceLT, Nat.reduceLeDiff, ↓reduceIte, if_true, if_false, List.getElem?_cons_zero, List.getElem?_cons_succ, List.set_cons_zero, List.set_cons_succ, List.length_cons, List.length_nil, mz_s1, mz_s2, mz_cl, true_and, and_true, false_and, and_false, List.append_nil, mk_b0, mk_b1, mk_b2, mk_bn, Value.int.injEq, Option.toList_some, Option.toList_none, List.cons_append, List.nil_append, Classical.not_not, Option.some.injEq, reduceCtorEq, ne_eq, not_true_eq_false, not_false_eq_true, false_implies, true_implies, mz_rl d_Office_fault_36, mz_rl d_Office_fault_37, mz_rl d_Office_fault_40, mz_rl d_Office_fault_43, nF_0, ho, hl]
      exact ⟨by unfold ftV; rw [if_neg q0, if_pos q1], rfl, h, fun _ _ _ => rfl, MU_rf f⟩
    · refine mz_look (dflt := 43) (ps := #[(0, 27), (1, 35)]) (len := 27) (off := 43) (by simp only [d_Office_fault]) (by decide) (by simp [Op.lookupswitch.offset, Ne.symm q0, Ne.symm q1]) (by decide) ?_
      refine mz_go [] 20 ?_
      simp only [show mz_t 1 43 = 44 from rfl]
      simp only [mz_r0, ev_0, ev_1, ev_2, ev_3, ev_4, ev_5, ev_6, ev_7, ev_8, ev_9, ev_10, ev_11, ev_12, ev_13, ev_14, ev_15, ev_16, ev_17, ev_18, ev_19, ev_20, ev_21, ev_22, ev_23, ev_24, ev_25, ev_26, ev_27, ev_28, ev_29, ev_30, ev_31, ev_32, ev_33, ev_34, ev_35, ev_36, ev_37, ev_38, ev_39, ev_40, ev_41, ev_42, ev_43, ev_44, ev_45, ev_46, ev_47, ev_48, ev_49, ev_50, ev_51, ev_52, ev_53, ev_54, ev_55, ev_56, ev_57, ev_58, ev_59, ev_60, ev_61, ev_62, ev_63, ev_64, ev_65, ev_66, ev_67, ev_68, ev_69, ev_70, ev_71, ev_72, ev_73, ev_74, ev_75, ev_76, ev_77, ev_78, ev_79, ev_80, ev_81, ev_82, ev_83, mk_lit, mk_fin, mk_cat, mk_fit, mk_nar, mk_fld, mk_cls, mk_ty, mk_isr, List.mem_cons, List.not_mem_nil, or_false, or_true, false_or, true_or, Nat.reduceEqDiff, Nat.reduceAdd, Nat.reduceSub, Nat.reduceLT, Nat.reduceLeDiff, ↓reduceIte, if_true, if_false, List.getElem?_cons_zero, List.getElem?_cons_succ, List.set_cons_zero, List.set_cons_succ, List.length_cons, List.length_nil, mz_s1, mz_s2, mz_cl, true_and, and_true, false_and, and_false, List.append_nil, mk_b0, mk_b1, mk_b2, mk_bn, Value.int.injEq, Option.toList_some, Option.toList_none, List.cons_append, List.nil_append, Classical.not_not, Option.some.injEq, reduceCtorEq, ne_eq, not_true_eq_false, not_false_eq_true, false_implies, true_implies, mz_rl d_Office_fault_44, mz_rl d_Office_fault_45, nF_0]
      exact ⟨by unfold ftV; rw [if_neg q0, if_neg q1], rfl, h, fun _ _ _ => rfl, MU_rf f⟩
def ps8 (sz : Nat → Nat) : Nat → Nat
  | 0 => 0
  | i + 1 => ps8 sz i + sz i
theorem l_Office_cardsInAll (G : mz_G) (n : Nat) (f : mz_H) {K : Nat} {sz : Nat → Nat} {cd : Nat → Nat → Nat} (ho : f 0 = .inr (0, [.ref 1, .ref 2, .ref 3, .ref 4, .ref 5, .ref 8, .ref 13, .ref 16])) (hq : f 1 = aQ 4 8 deckQ) (hD : CD f K sz cd) :
    ∀ m i, i + m = 8 → mz_X G mk_P 0 false b_Office_cardsInAll 3 (some .int) (r_Office_cardsInAll 0 0) (fun v n' f' => v = some (.int (nI K)) ∧ n' = n ∧ f' = f) (fun _ _ _ => False) 4 [some (.ref 0), some (.int (nI (ps8 sz i))), some (.int (nI i))] [] 0 0 n f := by
  intro m
  induction m with
  | zero =>
    intro i hi
    have : i = 8 := by omega
    subst this
    refine mz_go [4] 30 ?_
    simp only [mz_r0, ev_0, ev_1, ev_2, ev_3, ev_4, ev_5, ev_6, ev_7, ev_8, ev_9, ev_10, ev_11, ev_12, ev_13, ev_14, ev_15, ev_16, ev_17, ev_18, ev_19, ev_20, ev_21, ev_22, ev_23, ev_24, ev_25, ev_26, ev_27, ev_28, ev_29, ev_30, ev_31, ev_32, ev_33, ev_34, ev_35, ev_36, ev_37, ev_38, ev_39, ev_40, ev_41, ev_42, ev_43, ev_44, ev_45, ev_46, ev_47, ev_48, ev_49, ev_50, ev_51, ev_52, ev_53, ev_54, ev_55, ev_56, ev_57, ev_58, ev_59, ev_60, ev_61, ev_62, ev_63, ev_64, ev_65, ev_66, ev_67, ev_68, ev_69, ev_70, ev_71, ev_72, ev_73, ev_74, ev_75, ev_76, ev_77, ev_78, ev_79, ev_80, ev_81, ev_82, ev_83, mk_lit, mk_fin, mk_cat, mk_fit, mk_nar, mk_fld, mk_cls, mk_ty, mk_isr, List.mem_cons, List.not_mem_nil, or_false, or_true, false_or, true_or, Nat.reduceEqDiff, Nat.reduceAdd, Nat.reduceSub, Nat.reduceLT, Nat.reduceLeDiff, ↓reduceIte, if_true, if_false, List.getElem?_cons_zero, List.getElem?_cons_succ, List.set_cons_zero, List.set_cons_succ, List.length_cons, List.length_nil, mz_s1, mz_s2, mz_cl, true_and, and_true, false_and, and_false, List.append_nil, mk_b0, mk_b1, mk_b2, mk_bn, Value.int.injEq, Option.toList_some, Option.toList_none, List.cons_append, List.nil_append, Classical.not_not, Option.some.injEq, reduceCtorEq, ne_eq, not_true_eq_false, not_false_eq_true, false_implies, true_implies, mz_rl d_Office_cardsInAll_4, mz_rl d_Office_cardsInAll_5, mz_rl d_Office_cardsInAll_7, mz_rl d_Office_cardsInAll_10, mz_rl d_Office_cardsInAll_11, mz_rl d_Office_cardsInAll_12, mz_rl d_Office_cardsInAll_15, mz_rl d_Office_cardsInAll_16, mz_rl d_Office_cardsInAll_17, mz_rl d_Office_cardsInAll_20, mz_rl d_Office_cardsInAll_21, mz_rl d_Office_cardsInAll_22, mz_rl d_Office_cardsInAll_25, mz_rl d_Office_cardsInAll_28, mz_rl d_Office_cardsInAll_29, j_Office_cardsInAll_7, j_Office_cardsInAll_25, nF_0, nI_leI (show 8 < 2 ^ 31 by omega) (show 8 < 2 ^ 31 by omega), Nat.le_refl]
    have : ps8 sz 8 = K := by have := hD.2; simp only [ps8]; omega
    rw [this]
  | succ m ih =>
    intro i hi
    obtain ⟨g, e1, e2, e3⟩ := hD.1 i (by omega)
    refine mz_go [4] 30 ?_
    simp only [mz_r0, ev_0, ev_1, ev_2, ev_3, ev_4, ev_5, ev_6, ev_7, ev_8, ev_9, ev_10, ev_11, ev_12, ev_13, ev_14, ev_15, ev_16, ev_17, ev_18, ev_19, ev_20, ev_21, ev_22, ev_23, ev_24, ev_25, ev_26, ev_27, ev_28, ev_29, ev_30, ev_31, ev_32, ev_33, ev_34, ev_35, ev_36, ev_37, ev_38, ev_39, ev_40, ev_41, ev_42, ev_43, ev_44, ev_45, ev_46, ev_47, ev_48, ev_49, ev_50, ev_51, ev_52, ev_53, ev_54, ev_55, ev_56, ev_57, ev_58, ev_59, ev_60, ev_61, ev_62, ev_63, ev_64, ev_65, ev_66, ev_67, ev_68, ev_69, ev_70, ev_71, ev_72, ev_73, ev_74, ev_75, ev_76, ev_77, ev_78, ev_79, ev_80, ev_81, ev_82, ev_83, mk_lit, mk_fin, mk_cat, mk_fit, mk_nar, mk_fld, mk_cls, mk_ty, mk_isr, List.mem_cons, List.not_mem_nil, or_false, or_true, false_or, true_or, Nat.reduceEqDiff, Nat.reduceAdd, Nat.reduceSub, Nat.reduceLT, Nat.reduceLeDiff, ↓reduceIte, if_true, if_false, List.getElem?_cons_zero, List.getElem?_cons_succ, List.set_cons_zero, List.set_cons_succ, List.length_cons, List.length_nil, mz_s1, mz_s2, mz_cl, true_and, and_true, false_and, and_false, List.append_nil, mk_b0, mk_b1, mk_b2, mk_bn, Value.int.injEq, Option.toList_some, Option.toList_none, List.cons_append, List.nil_append, Classical.not_not, Option.some.injEq, reduceCtorEq, ne_eq, not_true_eq_false, not_false_eq_true, false_implies, true_implies, mz_rl d_Office_cardsInAll_4, mz_rl d_Office_cardsInAll_5, mz_rl d_Office_cardsInAll_7, mz_rl d_Office_cardsInAll_10, mz_rl d_Office_cardsInAll_11, mz_rl d_Office_cardsInAll_12, mz_rl d_Office_cardsInAll_15, mz_rl d_Office_cardsInAll_16, mz_rl d_Office_cardsInAll_17, mz_rl d_Office_cardsInAll_20, mz_rl d_Office_cardsInAll_21, mz_rl d_Office_cardsInAll_22, mz_rl d_Office_cardsInAll_25, mz_rl d_Office_cardsInAll_28, mz_rl d_Office_cardsInAll_29, j_Office_cardsInAll_7, j_Office_cardsInAll_25, nF_0, nI_leI (show 8 < 2 ^ 31 by omega) (show i < 2 ^ 31 by omega), show ¬ 8 ≤ i by omega, ho, hq, vp_in_nI (show i < 8 by omega) (show 8 < 2 ^ 31 by decide), nI_clamp (show i < 2 ^ 31 by omega), deckQ_at (show i < 8 by omega), va_rf, e1, nI_add]
    exact ih (i + 1) (by omega)
theorem c_Office_cardsInAll (G : mz_G) (n : Nat) (f : mz_H) {K : Nat} {sz : Nat → Nat} {cd : Nat → Nat → Nat} (ho : f 0 = .inr (0, [.ref 1, .ref 2, .ref 3, .ref 4, .ref 5, .ref 8, .ref 13, .ref 16])) (hq : f 1 = aQ 4 8 deckQ) (hD : CD f K sz cd) :
    mz_Ct G mk_P y_Office_cardsInAll b_Office_cardsInAll 3 (some .int) (r_Office_cardsInAll 0 0) [.ref 0] n f (fun v n' f' => v = some (.int (nI K)) ∧ n' = n ∧ f' = f) := by
  refine mk_Ct 0 false [some (.ref 0), none, none] (by decide) rfl (by decide) (Nat.le_of_ble_eq_true rfl) rfl ?_
  refine mz_go [4] 30 ?_
  simp only [mz_r0, ev_0, ev_1, ev_2, ev_3, ev_4, ev_5, ev_6, ev_7, ev_8, ev_9, ev_10, ev_11, ev_12, ev_13, ev_14, ev_15, ev_16, ev_17, ev_18, ev_19, ev_20, ev_21, ev_22, ev_23, ev_24, ev_25, ev_26, ev_27, ev_28, ev_29, ev_30, ev_31, ev_32, ev_33, ev_34, ev_35, ev_36, ev_37, ev_38, ev_39, ev_40, ev_41, ev_42, ev_43, ev_44, ev_45, ev_46, ev_47, ev_48, ev_49, ev_50, ev_51, ev_52, ev_53, ev_54, ev_55, ev_56, ev_57, ev_58, ev_59, ev_60, ev_61, ev_62, ev_63, ev_64, ev_65, ev_66, ev_67, ev_68, ev_69, ev_70, ev_71, ev_72, ev_73, ev_74, ev_75, ev_76, ev_77, ev_78, ev_79, ev_80, ev_81, ev_82, ev_83, mk_lit, mk_fin, mk_cat, mk_fit, mk_nar, mk_fld, mk_cls, mk_ty, mk_isr, List.mem_cons, List.not_mem_nil, or_false, or_true, false_or, true_or, Nat.reduceEqDiff, Nat.reduceAdd, Nat.reduceSub, Nat.reduceLT, Nat.reduceLeDiff, ↓reduceIte, if_true, if_false, List.getElem?_cons_zero, List.getElem?_cons_succ, List.set_cons_zero, List.set_cons_succ, List.length_cons, List.length_nil, mz_s1, mz_s2, mz_cl, true_and, and_true, false_and, and_false, List.append_nil, mk_b0, mk_b1, mk_b2, mk_bn, Value.int.injEq, Option.toList_some, Option.toList_none, List.cons_append, List.nil_append, Classical.not_not, Option.some.injEq, reduceCtorEq, ne_eq, not_true_eq_false, not_false_eq_true, false_implies, true_implies, mz_rl d_Office_cardsInAll_0, mz_rl d_Office_cardsInAll_1, mz_rl d_Office_cardsInAll_2, mz_rl d_Office_cardsInAll_3, nF_0]
  exact l_Office_cardsInAll G n f ho hq hD 8 0 rfl
/-- count's answer -/
def ctV (K : Nat) (sz W : Nat → Nat) (m : mS) (ln : Nat) (x : Int32) : Int32 := if 0 ≤ x.toInt ∧ x.toInt < 8 then nI (sz x.toNatClampNeg) else if 10 ≤ x.toInt ∧ x.toInt < 14 then nI (W (x.toNatClampNeg - 10)) else if x.toInt = 8 then nI K else if x.toInt = 9 then nI ln else if x.toInt = 14 then m.2.2.1 else if x.toInt = 15 then m.2.2.2 else -1
theorem ctV_d {K : Nat} {sz W : Nat → Nat} {m : mS} {ln i : Nat} (hi : i < 8) : ctV K sz W m ln (nI i) = nI (sz i) := by
  unfold ctV
  rw [if_pos (by rw [mk_nti (show i < 2 ^ 31 by omega)]; omega), nI_clamp (by omega)]
theorem ctV_b {K : Nat} {sz W : Nat → Nat} {m : mS} {ln i : Nat} (hi : i < 4) : ctV K sz W m ln (nI (i + 10)) = nI (W i) := by
  unfold ctV
  rw [if_neg (by rw [mk_nti (show i + 10 < 2 ^ 31 by omega)]; omega), if_pos (by rw [mk_nti (show i + 10 < 2 ^ 31 by omega)]; omega), nI_clamp (by omega)]
  rw [Nat.add_sub_cancel]
theorem ctV_8 {K : Nat} {sz W : Nat → Nat} {m : mS} {ln : Nat} : ctV K sz W m ln (nI 8) = nI K := by
  unfold ctV
  rw [if_neg (by decide +kernel), if_neg (by decide +kernel), if_pos (by decide +kernel)]
theorem ctV_9 {K : Nat} {sz W : Nat → Nat} {m : mS} {ln : Nat} : ctV K sz W m ln (nI 9) = nI ln := by
  unfold ctV
  rw [if_neg (by decide +kernel), if_neg (by decide +kernel), if_neg (by decide +kernel), if_pos (by decide +kernel)]
theorem ctV_14 {K : Nat} {sz W : Nat → Nat} {m : mS} {ln : Nat} : ctV K sz W m ln (nI 14) = m.2.2.1 := by
  unfold ctV
  rw [if_neg (by decide +kernel), if_neg (by decide +kernel), if_neg (by decide +kernel), if_neg (by decide +kernel), if_pos (by decide +kernel)]
theorem ctV_15 {K : Nat} {sz W : Nat → Nat} {m : mS} {ln : Nat} : ctV K sz W m ln (nI 15) = m.2.2.2 := by
  unfold ctV
  rw [if_neg (by decide +kernel), if_neg (by decide +kernel), if_neg (by decide +kernel), if_neg (by decide +kernel), if_neg (by decide +kernel), if_pos (by decide +kernel)]
theorem ctV_o {K : Nat} {sz W : Nat → Nat} {m : mS} {ln : Nat} {x : Int32} (h : x.toInt < 0 ∨ 15 < x.toInt) : ctV K sz W m ln x = -1 := by
  unfold ctV
  rw [if_neg (by omega), if_neg (by omega), if_neg (by omega), if_neg (by omega), if_neg (by omega), if_neg (by omega)]
def cuP (f : mz_H) (n K : Nat) (sz : Nat → Nat) (cd s : Nat → Nat → Nat) (B : bS) (m : mS) (u : tT) (x : Int32) (v : Option Value) (n' : Nat) (f' : mz_H) : Prop := v = some (.int (ctV K sz B.1 m u.2.1 x)) ∧ n' = n ∧ CI f' n K sz cd s ∧ FrB f f' ∧ MU f f' no_U
set_option maxRecDepth 20000 in
theorem c_Office_count (G : mz_G) (n : Nat) (f : mz_H) {x : Int32} {K : Nat} {sz : Nat → Nat} {cd s : Nat → Nat → Nat} (h : CI f n K sz cd s) {B : bS} (hB : BX f B) {m : mS} (hm : MC f m) {u : tT} (hX : TT f u) :
    mz_Ct G mk_P y_Office_count b_Office_count 2 (some .int) (r_Office_count 0 0) [.ref 0, .int x] n f (cuP f n K sz cd s B m u x) := by
  obtain ⟨lx, h1, h2, h3, h4, h5, h6, h7⟩ := id h
  have ho := h3.1
  have hq := h3.2.1
  have hb := h3.2.2.1
  have h16 := h4.1
  have h18 := hX.2.1
  have k5 := hm.2.1
  have k8 := hm.2.2
  have fin : ∀ r, r = ctV K sz B.1 m u.2.1 x → cuP f n K sz cd s B m u x (some (.int r)) n f := fun r e => ⟨by rw [e], rfl, h, fun _ _ _ => rfl, MU_rf f⟩
  refine mk_Ct 0 false [some (.ref 0), some (.int x)] (by decide) rfl (by decide) (Nat.le_of_ble_eq_true rfl) rfl ?_
  refine mz_go [1] 20 ?_
  simp only [mz_r0, ev_0, ev_1, ev_2, ev_3, ev_4, ev_5, ev_6, ev_7, ev_8, ev_9, ev_10, ev_11, ev_12, ev_13, ev_14, ev_15, ev_16, ev_17, ev_18, ev_19, ev_20, ev_21, ev_22, ev_23, ev_24, ev_25, ev_26, ev_27, ev_28, ev_29, ev_30, ev_31, ev_32, ev_33, ev_34, ev_35, ev_36, ev_37, ev_38, ev_39, ev_40, ev_41, ev_42, ev_43, ev_44, ev_45, ev_46, ev_47, ev_48, ev_49, ev_50, ev_51, ev_52, ev_53, ev_54, ev_55, ev_56, ev_57, ev_58, ev_59, ev_60, ev_61, ev_62, ev_63, ev_64, ev_65, ev_66, ev_67, ev_68, ev_69, ev_70, ev_71, ev_72, ev_73, ev_74, ev_75, ev_76, ev_77, ev_78, ev_79, ev_80, ev_81, ev_82, ev_83, mk_lit, mk_fin, mk_cat, mk_fit, mk_nar, mk_fld, mk_cls, mk_ty, mk_isr, List.mem_cons, List.not_mem_nil, or_false, or_true, false_or, true_or, Nat.reduceEqDiff, Nat.reduceAdd, Nat.reduceSub, Nat.reduceLT, Nat.reduceLeDiff, ↓reduceIte, if_true, if_false, List.getElem?_cons_zero, List.getElem?_cons_succ, List.set_cons_zero, List.set_cons_succ, List.length_cons, List.length_nil, mz_s1, mz_s2, mz_cl, true_and, and_true, false_and, and_false, List.append_nil, mk_b0, mk_b1, mk_b2, mk_bn, Value.int.injEq, Option.toList_some, Option.toList_none, List.cons_append, List.nil_append, Classical.not_not, Option.some.injEq, reduceCtorEq, ne_eq, not_true_eq_false, not_false_eq_true, false_implies, true_implies, mz_rl d_Office_count_0, nF_0]
  refine mz_callS (by simp only [d_Office_count_1, Nat.reduceAdd]) g_0_62 rfl (fun _ _ h => h) (c_Office_isDeck G mk_P n f x) (by decide) (Nat.le_of_ble_eq_true rfl) rfl ?_; intro v_ n_ f_ h_; obtain ⟨rfl, hn_, hf_⟩ := h_; replace hn_ := hn_.symm; replace hf_ := hf_.symm; subst hn_; subst hf_
  by_cases hx : 0 ≤ x.toInt ∧ x.toInt < 8
  · obtain ⟨i, hi, rfl⟩ := mk_nat (N := 8) hx.1 hx.2 (by decide)
    obtain ⟨g, e1, e2, e3⟩ := h6.1 i hi
    refine mz_go [] 20 ?_
    simp only [mz_r0, ev_0, ev_1, ev_2, ev_3, ev_4, ev_5, ev_6, ev_7, ev_8, ev_9, ev_10, ev_11, ev_12, ev_13, ev_14, ev_15, ev_16, ev_17, ev_18, ev_19, ev_20, ev_21, ev_22, ev_23, ev_24, ev_25, ev_26, ev_27, ev_28, ev_29, ev_30, ev_31, ev_32, ev_33, ev_34, ev_35, ev_36, ev_37, ev_38, ev_39, ev_40, ev_41, ev_42, ev_43, ev_44, ev_45, ev_46, ev_47, ev_48, ev_49, ev_50, ev_51, ev_52, ev_53, ev_54, ev_55, ev_56, ev_57, ev_58, ev_59, ev_60, ev_61, ev_62, ev_63, ev_64, ev_65, ev_66, ev_67, ev_68, ev_69, ev_70, ev_71, ev_72, ev_73, ev_74, ev_75, ev_76, ev_77, ev_78, ev_79, ev_80, ev_81, ev_82, ev_83, mk_lit, mk_fin, mk_cat, mk_fit, mk_nar, mk_fld, mk_cls, mk_ty, mk_isr, List.mem_cons, List.not_mem_nil, or_false, or_true, false_or, true_or, Nat.reduceEqDiff, Nat.reduceAdd, Nat.reduceSub, Nat.reduceLT, Nat.reduceLeDiff, ↓reduceIte, if_true, if_false, List.getElem?_cons_zero, List.getElem?_cons_succ, List.set_cons_zero, List.set_cons_succ, List.length_cons, List.length_nil, mz_s1, mz_s2, mz_cl, true_and, and_true, false_and, and_false, List.append_nil, mk_b0, mk_b1, mk_b2, mk_bn, Value.int.injEq, Option.toList_some, Option.toList_none, List.cons_append, List.nil_append, Classical.not_not, Option.some.injEq, reduceCtorEq, ne_eq, not_true_eq_false, not_false_eq_true, false_implies, true_implies, mz_rl d_Office_count_4, mz_rl d_Office_count_7, mz_rl d_Office_count_8, mz_rl d_Office_count_11, mz_rl d_Office_count_12, mz_rl d_Office_count_13, mz_rl d_Office_count_16, mz_rl d_Office_count_17, mz_rl d_Office_count_18, mz_rl d_Office_count_20, mz_rl d_Office_count_21, j_Office_count_4, nF_0, eq_true hx, ho, hq, vp_in_nI hi (show 8 < 2 ^ 31 by decide), nI_clamp (show i < 2 ^ 31 by omega), deckQ_at hi, va_rf, e1]
    exact fin _ (ctV_d hi).symm
  · refine mz_go [21] 20 ?_
    simp only [mz_r0, ev_0, ev_1, ev_2, ev_3, ev_4, ev_5, ev_6, ev_7, ev_8, ev_9, ev_10, ev_11, ev_12, ev_13, ev_14, ev_15, ev_16, ev_17, ev_18, ev_19, ev_20, ev_21, ev_22, ev_23, ev_24, ev_25, ev_26, ev_27, ev_28, ev_29, ev_30, ev_31, ev_32, ev_33, ev_34, ev_35, ev_36, ev_37, ev_38, ev_39, ev_40, ev_41, ev_42, ev_43, ev_44, ev_45, ev_46, ev_47, ev_48, ev_49, ev_50, ev_51, ev_52, ev_53, ev_54, ev_55, ev_56, ev_57, ev_58, ev_59, ev_60, ev_61, ev_62, ev_63, ev_64, ev_65, ev_66, ev_67, ev_68, ev_69, ev_70, ev_71, ev_72, ev_73, ev_74, ev_75, ev_76, ev_77, ev_78, ev_79, ev_80, ev_81, ev_82, ev_83, mk_lit, mk_fin, mk_cat, mk_fit, mk_nar, mk_fld, mk_cls, mk_ty, mk_isr, List.mem_cons, List.not_mem_nil, or_false, or_true, false_or, true_or, Nat.reduceEqDiff, Nat.reduceAdd, Nat.reduceSub, Nat.reduceLT, Nat.reduceLeDiff, ↓reduceIte, if_true, if_false, List.getElem?_cons_zero, List.getElem?_cons_succ, List.set_cons_zero, List.set_cons_succ, List.length_cons, List.length_nil, mz_s1, mz_s2, mz_cl, true_and, and_true, false_and, and_false, List.append_nil, mk_b0, mk_b1, mk_b2, mk_bn, Value.int.injEq, Option.toList_some, Option.toList_none, List.cons_append, List.nil_append, Classical.not_not, Option.some.injEq, reduceCtorEq, ne_eq, not_true_eq_false, not_false_eq_true, false_implies, true_implies, mz_rl d_Office_count_4, mz_rl d_Office_count_7, mz_rl d_Office_count_8, mz_rl d_Office_count_11, mz_rl d_Office_count_12, mz_rl d_Office_count_13, mz_rl d_Office_count_16, mz_rl d_Office_count_17, mz_rl d_Office_count_18, mz_rl d_Office_count_20, j_Office_count_4, nF_0, eq_false hx]
    refine mz_callS (by simp only [d_Office_count_21, Nat.reduceAdd]) g_0_84 rfl (fun _ _ h => h) (c_Office_isBoard G mk_P n f (x - nI 10)) (by decide) (Nat.le_of_ble_eq_true rfl) rfl ?_; intro v_ n_ f_ h_; obtain ⟨rfl, hn_, hf_⟩ := h_; replace hn_ := hn_.symm; replace hf_ := hf_.symm; subst hn_; subst hf_
    by_cases hy : 0 ≤ (x - nI 10).toInt ∧ (x - nI 10).toInt < 4
    · obtain ⟨i, hi, hxi⟩ := mk_nat (N := 4) hy.1 hy.2 (by decide)
      have q1 := hB i hi
      have ex : x = nI (i + 10) := by rw [← nI_add, ← hxi]; exact (Int32.sub_add_cancel x (nI 10)).symm
      have hy' := hy
      rw [hxi] at hy'
      refine mz_go [] 20 ?_
      simp only [mz_r0, ev_0, ev_1, ev_2, ev_3, ev_4, ev_5, ev_6, ev_7, ev_8, ev_9, ev_10, ev_11, ev_12, ev_13, ev_14, ev_15, ev_16, ev_17, ev_18, ev_19, ev_20, ev_21, ev_22, ev_23, ev_24, ev_25, ev_26, ev_27, ev_28, ev_29, ev_30, ev_31, ev_32, ev_33, ev_34, ev_35, ev_36, ev_37, ev_38, ev_39, ev_40, ev_41, ev_42, ev_43, ev_44, ev_45, ev_46, ev_47, ev_48, ev_49, ev_50, ev_51, ev_52, ev_53, ev_54, ev_55, ev_56, ev_57, ev_58, ev_59, ev_60, ev_61, ev_62, ev_63, ev_64, ev_65, ev_66, ev_67, ev_68, ev_69, ev_70, ev_71, ev_72, ev_73, ev_74, ev_75, ev_76, ev_77, ev_78, ev_79, ev_80, ev_81, ev_82, ev_83, mk_lit, mk_fin, mk_cat, mk_fit, mk_nar, mk_fld, mk_cls, mk_ty, mk_isr, List.mem_cons, List.not_mem_nil, or_false, or_true, false_or, true_or, Nat.reduceEqDiff, Nat.reduceAdd, Nat.reduceSub, Nat.reduceLT, Nat.reduceLeDiff, ↓reduceIte, if_true, if_false, List.getElem?_cons_zero, List.getElem?_cons_succ, List.set_cons_zero, List.set_cons_succ, List.length_cons, List.length_nil, mz_s1, mz_s2, mz_cl, true_and, and_true, false_and, and_false, List.append_nil, mk_b0, mk_b1, mk_b2, mk_bn, Value.int.injEq, Option.toList_some, Option.toList_none, List.cons_append, List.nil_append, Classical.not_not, Option.some.injEq, reduceCtorEq, ne_eq, not_true_eq_false, not_false_eq_true, false_implies, true_implies, mz_rl d_Office_count_24, mz_rl d_Office_count_27, mz_rl d_Office_count_28, mz_rl d_Office_count_31, mz_rl d_Office_count_32, mz_rl d_Office_count_34, mz_rl d_Office_count_35, mz_rl d_Office_count_36, mz_rl d_Office_count_39, mz_rl d_Office_count_40, mz_rl d_Office_count_41, j_Office_count_24, nF_0, eq_true hy, eq_true hy', ho, hb, hxi, vp_in_nI hi (show 4 < 2 ^ 31 by decide), nI_clamp (show i < 2 ^ 31 by omega), boardQ_at hi, va_rf, q1.1]
      exact fin _ (by rw [ex]; exact (ctV_b hi).symm)
    · refine mz_go [41] 20 ?_
      simp only [mz_r0, ev_0, ev_1, ev_2, ev_3, ev_4, ev_5, ev_6, ev_7, ev_8, ev_9, ev_10, ev_11, ev_12, ev_13, ev_14, ev_15, ev_16, ev_17, ev_18, ev_19, ev_20, ev_21, ev_22, ev_23, ev_24, ev_25, ev_26, ev_27, ev_28, ev_29, ev_30, ev_31, ev_32, ev_33, ev_34, ev_35, ev_36, ev_37, ev_38, ev_39, ev_40, ev_41, ev_42, ev_43, ev_44, ev_45, ev_46, ev_47, ev_48, ev_49, ev_50, ev_51, ev_52, ev_53, ev_54, ev_55, ev_56, ev_57, ev_58, ev_59, ev_60, ev_61, ev_62, ev_63, ev_64, ev_65, ev_66, ev_67, ev_68, ev_69, ev_70, ev_71, ev_72, ev_73, ev_74, ev_75, ev_76, ev_77, ev_78, ev_79, ev_80, ev_81, ev_82, ev_83, mk_lit, mk_fin, mk_cat, mk_fit, mk_nar, mk_fld, mk_cls, mk_ty, mk_isr, List.mem_cons, List.not_mem_nil, or_false, or_true, false_or, true_or, Nat.reduceEqDiff, Nat.reduceAdd, Nat.reduceSub, Nat.reduceLT, Nat.reduceLeDiff, ↓reduceIte, if_true, if_false, List.getElem?_cons_zero, List.getElem?_cons_succ, List.set_cons_zero, List.set_cons_succ, List.length_cons, List.length_nil, mz_s1, mz_s2, mz_cl, true_and, and_true, false_and, and_false, List.append_nil, mk_b0, mk_b1, mk_b2, mk_bn, Value.int.injEq, Option.toList_some, Option.toList_none, List.cons_append, List.nil_append, Classical.not_not, Option.some.injEq, reduceCtorEq, ne_eq, not_true_eq_false, not_false_eq_true, false_implies, true_implies, mz_rl d_Office_count_24, mz_rl d_Office_count_27, mz_rl d_Office_count_28, mz_rl d_Office_count_31, mz_rl d_Office_count_32, mz_rl d_Office_count_34, mz_rl d_Office_count_35, mz_rl d_Office_count_36, mz_rl d_Office_count_39, mz_rl d_Office_count_40, j_Office_count_24, nF_0, eq_false hy]
      have hdf : ctV K sz B.1 m u.2.1 x = -1 → mz_X G mk_P 0 false b_Office_count 2 (some .int) (r_Office_count 0 0) (cuP f n K sz cd s B m u x) (fun _ _ _ => False) 120 [some (.ref 0), some (.int x)] [] 0 0 n f := by
        intro e
        refine mz_go [] 20 ?_
        simp only [mz_r0, ev_0, ev_1, ev_2, ev_3, ev_4, ev_5, ev_6, ev_7, ev_8, ev_9, ev_10, ev_11, ev_12, ev_13, ev_14, ev_15, ev_16, ev_17, ev_18, ev_19, ev_20, ev_21, ev_22, ev_23, ev_24, ev_25, ev_26, ev_27, ev_28, ev_29, ev_30, ev_31, ev_32, ev_33, ev_34, ev_35, ev_36, ev_37, ev_38, ev_39, ev_40, ev_41, ev_42, ev_43, ev_44, ev_45, ev_46, ev_47, ev_48, ev_49, ev_50, ev_51, ev_52, ev_53, ev_54, ev_55, ev_56, ev_57, ev_58, ev_59, ev_60, ev_61, ev_62, ev_63, ev_64, ev_65, ev_66, ev_67, ev_68, ev_69, ev_70, ev_71, ev_72, ev_73, ev_74, ev_75, ev_76, ev_77, ev_78, ev_79, ev_80, ev_81, ev_82, ev_83, mk_lit, mk_fin, mk_cat, mk_fit, mk_nar, mk_fld, mk_cls, mk_ty, mk_isr, List.mem_cons, List.not_mem_nil, or_false, or_true, false_or, true_or, Nat.reduceEqDiff, Nat.reduceAdd, Nat.reduceSub, Nat.reduceLT, Nat.reduceLeDiff, ↓reduceIte, if_true, if_false, List.getElem?_cons_zero, List.getElem?_cons_succ, List.set_cons_zero, List.set_cons_succ, List.length_cons, List.length_nil, mz_s1, mz_s2, mz_cl, true_and, and_true, false_and, and_false, List.append_nil, mk_b0, mk_b1, mk_b2, mk_bn, Value.int.injEq, Option.toList_some, Option.toList_none, List.cons_append, List.nil_append, Classical.not_not, Option.some.injEq, reduceCtorEq, ne_eq, not_true_eq_false, not_false_eq_true, false_implies, true_implies, mz_rl d_Office_count_120, mz_rl d_Office_count_121, nF_0]
        exact fin _ e.symm
      refine mz_table (dflt := 79) (lo := 8) (hi := 15) (offs := #[47, 52, 79, 79, 79, 79, 63, 71]) (len := 47) (by simp only [d_Office_count]) (fun zo => ⟨by decide, hdf (ctV_o (by omega))⟩) (fun z1 z2 => ?_)
      obtain ⟨j, hj, rfl⟩ := mk_nat (x := x) (N := 16) (by omega) (by omega) (by decide)
      rw [mk_nti (show j < 2 ^ 31 by omega)] at z1 z2 ⊢
      have : j = 8 ∨ j = 9 ∨ j = 10 ∨ j = 11 ∨ j = 12 ∨ j = 13 ∨ j = 14 ∨ j = 15 := by omega
      rcases this with rfl | rfl | rfl | rfl | rfl | rfl | rfl | rfl
      · refine ⟨47, by decide, by decide, ?_⟩
        simp only [show mz_t 41 47 = 88 from rfl]
        refine mz_go [89] 20 ?_
        simp only [mz_r0, ev_0, ev_1, ev_2, ev_3, ev_4, ev_5, ev_6, ev_7, ev_8, ev_9, ev_10, ev_11, ev_12, ev_13, ev_14, ev_15, ev_16, ev_17, ev_18, ev_19, ev_20, ev_21, ev_22, ev_23, ev_24, ev_25, ev_26, ev_27, ev_28, ev_29, ev_30, ev_31, ev_32, ev_33, ev_34, ev_35, ev_36, ev_37, ev_38, ev_39, ev_40, ev_41, ev_42, ev_43, ev_44, ev_45, ev_46, ev_47, ev_48, ev_49, ev_50, ev_51, ev_52, ev_53, ev_54, ev_55, ev_56, ev_57, ev_58, ev_59, ev_60, ev_61, ev_62, ev_63, ev_64, ev_65, ev_66, ev_67, ev_68, ev_69, ev_70, ev_71, ev_72, ev_73, ev_74, ev_75, ev_76, ev_77, ev_78, ev_79, ev_80, ev_81, ev_82, ev_83, mk_lit, mk_fin, mk_cat, mk_fit, mk_nar, mk_fld, mk_cls, mk_ty, mk_isr, List.mem_cons, List.not_mem_nil, or_false, or_true, false_or, true_or, Nat.reduceEqDiff, Nat.reduceAdd, Nat.reduceSub, Nat.reduceLT, Nat.reduceLeDiff, ↓reduceIte, if_true, if_false, List.getElem?_cons_zero, List.getElem?_cons_succ, List.set_cons_zero, List.set_cons_succ, List.length_cons, List.length_nil, mz_s1, mz_s2, mz_cl, true_and, and_true, false_and, and_false, List.append_nil, mk_b0, mk_b1, mk_b2, mk_bn, Value.int.injEq, Option.toList_some, Option.toList_none, List.cons_append, List.nil_append, Classical.not_not, Option.some.injEq, reduceCtorEq, ne_eq, not_true_eq_false, not_false_eq_true, false_implies, true_implies, mz_rl d_Office_count_88, nF_0]
        refine mz_callV (by simp only [d_Office_count_89, Nat.reduceAdd]) g_0_66 rfl (fun _ _ h => h) (c_Office_cardsInAll G n f ho hq h6) ho rfl rfl (by decide) (Nat.le_of_ble_eq_true rfl) rfl ?_; intro v_ n_ f_ h_; obtain ⟨rfl, hn_, hf_⟩ := h_; replace hn_ := hn_.symm; replace hf_ := hf_.symm; subst hn_; subst hf_
        refine mz_go [] 20 ?_
        simp only [mz_r0, ev_0, ev_1, ev_2, ev_3, ev_4, ev_5, ev_6, ev_7, ev_8, ev_9, ev_10, ev_11, ev_12, ev_13, ev_14, ev_15, ev_16, ev_17, ev_18, ev_19, ev_20, ev_21, ev_22, ev_23, ev_24, ev_25, ev_26, ev_27, ev_28, ev_29, ev_30, ev_31, ev_32, ev_33, ev_34, ev_35, ev_36, ev_37, ev_38, ev_39, ev_40, ev_41, ev_42, ev_43, ev_44, ev_45, ev_46, ev_47, ev_48, ev_49, ev_50, ev_51, ev_52, ev_53, ev_54, ev_55, ev_56, ev_57, ev_58, ev_59, ev_60, ev_61, ev_62, ev_63, ev_64, ev_65, ev_66, ev_67, ev_68, ev_69, ev_70, ev_71, ev_72, ev_73, ev_74, ev_75, ev_76, ev_77, ev_78, ev_79, ev_80, ev_81, ev_82, ev_83, mk_lit, mk_fin, mk_cat, mk_fit, mk_nar, mk_fld, mk_cls, mk_ty, mk_isr, List.mem_cons, List.not_mem_nil, or_false, or_true, false_or, true_or, Nat.reduceEqDiff, Nat.reduceAdd, Nat.reduceSub, Nat.reduceLT, Nat.reduceLeDiff, ↓reduceIte, if_true, if_false, List.getElem?_cons_zero, List.getElem?_cons_succ, List.set_cons_zero, List.set_cons_succ, List.length_cons, List.length_nil, mz_s1, mz_s2, mz_cl, true_and, and_true, false_and, and_false, List.append_nil, mk_b0, mk_b1, mk_b2, mk_bn, Value.int.injEq, Option.toList_some, Option.toList_none, List.cons_append, List.nil_append, Classical.not_not, Option.some.injEq, reduceCtorEq, ne_eq, not_true_eq_false, not_false_eq_true, false_implies, true_implies, mz_rl d_Office_count_92, nF_0]
        exact fin _ ctV_8.symm
      · refine ⟨52, by decide, by decide, ?_⟩
        simp only [show mz_t 41 52 = 93 from rfl]
        refine mz_go [] 20 ?_
        simp only [mz_r0, ev_0, ev_1, ev_2, ev_3, ev_4, ev_5, ev_6, ev_7, ev_8, ev_9, ev_10, ev_11, ev_12, ev_13, ev_14, ev_15, ev_16, ev_17, ev_18, ev_19, ev_20, ev_21, ev_22, ev_23, ev_24, ev_25, ev_26, ev_27, ev_28, ev_29, ev_30, ev_31, ev_32, ev_33, ev_34, ev_35, ev_36, ev_37, ev_38, ev_39, ev_40, ev_41, ev_42, ev_43, ev_44, ev_45, ev_46, ev_47, ev_48, ev_49, ev_50, ev_51, ev_52, ev_53, ev_54, ev_55, ev_56, ev_57, ev_58, ev_59, ev_60, ev_61, ev_62, ev_63, ev_64, ev_65, ev_66, ev_67, ev_68, ev_69, ev_70, ev_71, ev_72, ev_73, ev_74, ev_75, ev_76, ev_77, ev_78, ev_79, ev_80, ev_81, ev_82, ev_83, mk_lit, mk_fin, mk_cat, mk_fit, mk_nar, mk_fld, mk_cls, mk_ty, mk_isr, List.mem_cons, List.not_mem_nil, or_false, or_true, false_or, true_or, Nat.reduceEqDiff, Nat.reduceAdd, Nat.reduceSub, Nat.reduceLT, Nat.reduceLeDiff, ↓reduceIte, if_true, if_false, List.getElem?_cons_zero, List.getElem?_cons_succ, List.set_cons_zero, List.set_cons_succ, List.length_cons, List.length_nil, mz_s1, mz_s2, mz_cl, true_and, and_true, false_and, and_false, List.append_nil, mk_b0, mk_b1, mk_b2, mk_bn, Value.int.injEq, Option.toList_some, Option.toList_none, List.cons_append, List.nil_append, Classical.not_not, Option.some.injEq, reduceCtorEq, ne_eq, not_true_eq_false, not_false_eq_true, false_implies, true_implies, mz_rl d_Office_count_93, mz_rl d_Office_count_94, mz_rl d_Office_count_97, mz_rl d_Office_count_100, mz_rl d_Office_count_103, nF_0, ho, h16, h18]
        exact fin _ ctV_9.symm
      · exact absurd (by decide +kernel) hy
      · exact absurd (by decide +kernel) hy
      · exact absurd (by decide +kernel) hy
      · exact absurd (by decide +kernel) hy
      · refine ⟨63, by decide, by decide, ?_⟩
        simp only [show mz_t 41 63 = 104 from rfl]
        refine mz_go [] 20 ?_
        simp only [mz_r0, ev_0, ev_1, ev_2, ev_3, ev_4, ev_5, ev_6, ev_7, ev_8, ev_9, ev_10, ev_11, ev_12, ev_13, ev_14, ev_15, ev_16, ev_17, ev_18, ev_19, ev_20, ev_21, ev_22, ev_23, ev_24, ev_25, ev_26, ev_27, ev_28, ev_29, ev_30, ev_31, ev_32, ev_33, ev_34, ev_35, ev_36, ev_37, ev_38, ev_39, ev_40, ev_41, ev_42, ev_43, ev_44, ev_45, ev_46, ev_47, ev_48, ev_49, ev_50, ev_51, ev_52, ev_53, ev_54, ev_55, ev_56, ev_57, ev_58, ev_59, ev_60, ev_61, ev_62, ev_63, ev_64, ev_65, ev_66, ev_67, ev_68, ev_69, ev_70, ev_71, ev_72, ev_73, ev_74, ev_75, ev_76, ev_77, ev_78, ev_79, ev_80, ev_81, ev_82, ev_83, mk_lit, mk_fin, mk_cat, mk_fit, mk_nar, mk_fld, mk_cls, mk_ty, mk_isr, List.mem_cons, List.not_mem_nil, or_false, or_true, false_or, true_or, Nat.reduceEqDiff, Nat.reduceAdd, Nat.reduceSub, Nat.reduceLT, Nat.reduceLeDiff, ↓reduceIte, if_true, if_false, List.getElem?_cons_zero, List.getElem?_cons_succ, List.set_cons_zero, List.set_cons_succ, List.length_cons, List.length_nil, mz_s1, mz_s2, mz_cl, true_and, and_true, false_and, and_false, List.append_nil, mk_b0, mk_b1, mk_b2, mk_bn, Value.int.injEq, Option.toList_some, Option.toList_none, List.cons_append, List.nil_append, Classical.not_not, Option.some.injEq, reduceCtorEq, ne_eq, not_true_eq_false, not_false_eq_true, false_implies, true_implies, mz_rl d_Office_count_104, mz_rl d_Office_count_105, mz_rl d_Office_count_108, mz_rl d_Office_count_111, nF_0, ho, k5]
        exact fin _ ctV_14.symm
      · refine ⟨71, by decide, by decide, ?_⟩
        simp only [show mz_t 41 71 = 112 from rfl]
        refine mz_go [] 20 ?_
        simp only [mz_r0, ev_0, ev_1, ev_2, ev_3, ev_4, ev_5, ev_6, ev_7, ev_8, ev_9, ev_10, ev_11, ev_12, ev_13, ev_14, ev_15, ev_16, ev_17, ev_18, ev_19, ev_20, ev_21, ev_22, ev_23, ev_24, ev_25, ev_26, ev_27, ev_28, ev_29, ev_30, ev_31, ev_32, ev_33, ev_34, ev_35, ev_36, ev_37, ev_38, ev_39, ev_40, ev_41, ev_42, ev_43, ev_44, ev_45, ev_46, ev_47, ev_48, ev_49, ev_50, ev_51, ev_52, ev_53, ev_54, ev_55, ev_56, ev_57, ev_58, ev_59, ev_60, ev_61, ev_62, ev_63, ev_64, ev_65, ev_66, ev_67, ev_68, ev_69, ev_70, ev_71, ev_72, ev_73, ev_74, ev_75, ev_76, ev_77, ev_78, ev_79, ev_80, ev_81, ev_82, ev_83, mk_lit, mk_fin, mk_cat, mk_fit, mk_nar, mk_fld, mk_cls, mk_ty, mk_isr, List.mem_cons, List.not_mem_nil, or_false, or_true, false_or, true_or, Nat.reduceEqDiff, Nat.reduceAdd, Nat.reduceSub, Nat.reduceLT, Nat.reduceLeDiff, ↓reduceIte, if_true, if_false, List.getElem?_cons_zero, List.getElem?_cons_succ, List.set_cons_zero, List.set_cons_succ, List.length_cons, List.length_nil, mz_s1, mz_s2, mz_cl, true_and, and_true, false_and, and_false, List.append_nil, mk_b0, mk_b1, mk_b2, mk_bn, Value.int.injEq, Option.toList_some, Option.toList_none, List.cons_append, List.nil_append, Classical.not_not, Option.some.injEq, reduceCtorEq, ne_eq, not_true_eq_false, not_false_eq_true, false_implies, true_implies, mz_rl d_Office_count_112, mz_rl d_Office_count_113, mz_rl d_Office_count_116, mz_rl d_Office_count_119, nF_0, ho, k8]
        exact fin _ ctV_15.symm
