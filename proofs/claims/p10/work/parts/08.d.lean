/-- do two signs that differ come to one of the jacks q .. -/
def clB (F T t : Nat → Nat) (q w : Nat) : Nat → Bool
  | 0 => false
  | p + 1 => clB F T t q w p || decide (arN F T t (q + p) w = -2)
theorem clB_iff {F T t : Nat → Nat} {q w : Nat} : ∀ N, clB F T t q w N = true ↔ ∃ p, p < N ∧ arN F T t (q + p) w = -2 := by
  intro N
  induction N with
  | zero => exact ⟨fun z => (by cases z), fun ⟨p, hp, _⟩ => absurd hp (Nat.not_lt_zero _)⟩
  | succ N ih =>
    unfold clB
    rw [Bool.or_eq_true, ih, decide_eq_true_eq]
    constructor
    · rintro (⟨p, hp, e⟩ | e)
      · exact ⟨p, by omega, e⟩
      · exact ⟨N, by omega, e⟩
    · rintro ⟨p, hp, e⟩
      by_cases h : p = N
      · subst h; exact Or.inr e
      · exact Or.inl ⟨p, by omega, e⟩
/-- the sign that a new card gets in column p -/
def nsN (F T t : Nat → Nat) (w p : Nat) : Nat := if arN F T t p w = -1 then 32 else (arN F T t p w).toNatClampNeg
/-- a deck's run through the reproducer, from card i on: fault, card, the cards' signs, the other deck's cards -/
def cdF (F T : Nat → Nat) (w r K si : Nat) (c : Nat → Nat) : Nat → Nat → (Nat → Nat → Nat) → (Nat → Nat) → Nat × Nat × (Nat → Nat → Nat) × (Nat → Nat)
  | 0, i, s, ci => (0, i, s, ci)
  | m + 1, i, s, ci => if clB F T (s (c i)) 0 w 16 = true then (2, i, s, ci) else if i < r then cdF F T w r K si c m (i + 1) (va_up s (K + i) (cpy (nsN F T (s (c i)) w) (fun _ => 0) 16)) (va_up ci (si + i) (K + i)) else (4, i, s, ci)
/-- what copyDeck leaves behind -/
def cdPost (f : mz_H) (e ea si K : Nat) (R : Nat × Nat × (Nat → Nat → Nat) × (Nat → Nat)) (v : Option Value) (n' : Nat) (F' : mz_H) : Prop := ∃ g' gc cl, v = some (.int (nI R.2.1)) ∧ n' = 172 + 2 * (K + R.2.1) ∧ K + R.2.1 ≤ 200 ∧ si + R.2.1 ≤ 200 ∧ Fr f F' [4, 14, 15, e, ea] ∧ F' 4 = lightC R.1 R.2.1 ∧ F' 14 = .inr (6, [.int (nI 0), .ref 15, .int cl]) ∧ F' 15 = aI 16 gc ∧ F' e = .inr (4, [.ref ea, .int (nI (si + R.2.1))]) ∧ F' ea = aQ 6 200 g' ∧ Ps g' (si + R.2.1) R.2.2.2 (K + R.2.1) ∧ Cd F' (K + R.2.1) R.2.2.1
/-- the jacks of the columns, by what comes there -/
theorem brC_col {F T L t : Nat → Nat} {w : Nat} {gc : Nat → Int32} (hok : BdOk w F T L) (ht : ∀ j, j < 16 → sg (t j)) : ((brC F T t 0 16 w (cpy (fun _ => -1) gc 16, nI 0)).2 = nI 0 ↔ clB F T t 0 w 16 = false) ∧ (clB F T t 0 w 16 = false → ∀ p, p < 16 → (brC F T t 0 16 w (cpy (fun _ => -1) gc 16, nI 0)).1 p = arN F T t p w) := by
  have h := brC_ar (q := 0) (N := 16) (z := (cpy (fun _ => -1) gc 16, nI 0)) (w := w) (fun k hk h32 => sgF_ok (hok.2.1 k hk).1 h32 ht) (fun p hp => by show cpy (fun _ => (-1 : Int32)) gc 16 p = -1; rw [cpy_lt hp]) rfl w (Nat.le_refl _) (T := T)
  obtain ⟨h1, h2⟩ := h
  have hc : clB F T t 0 w 16 = false ↔ ∀ p, p < 16 → arN F T t (0 + p) w ≠ -2 := by
    constructor
    · intro z p hp e
      have := (clB_iff (F := F) (T := T) (t := t) (q := 0) (w := w) 16).mpr ⟨p, hp, e⟩
      rw [z] at this; cases this
    · intro z
      cases e : clB F T t 0 w 16 with
      | false => rfl
      | true =>
        obtain ⟨p, hp, e2⟩ := (clB_iff 16).mp e
        exact absurd e2 (z p hp)
  refine ⟨?_, fun z p hp => ?_⟩
  · rcases h2 with ⟨a1, a2⟩ | ⟨a1, p, hp, a2⟩
    · exact ⟨fun _ => hc.mpr a2, fun _ => a1⟩
    · exact ⟨fun z => absurd (a1.symm.trans z) (by decide), fun z => absurd a2 (hc.mp z p hp)⟩
  · rcases h1 p hp with ⟨b1, _⟩ | ⟨_, b2⟩
    · exact absurd b1 (hc.mp z p hp)
    · rw [Nat.zero_add] at b2; exact b2
theorem fill_ok {g : Nat → Int32} {N : Nat} : ∀ k, k < N → cpy (fun _ => (-1 : Int32)) g N k = -1 ∨ ∃ c, sg c ∧ cpy (fun _ => (-1 : Int32)) g N k = nI c := fun k hk => Or.inl (cpy_lt hk)
theorem Ps_mono {g : Nat → Option Nat} {sz K K' : Nat} {c : Nat → Nat} (h : Ps g sz c K) (hK : K ≤ K') : Ps g sz c K' := fun j hj => ⟨(h j hj).1, by have := (h j hj).2; omega⟩
theorem Ps_add {g : Nat → Option Nat} {sz K : Nat} {c : Nat → Nat} (h : Ps g sz c K) {x : Nat} (hx : x < K) : Ps (va_up g sz (some (172 + 2 * x))) (sz + 1) (va_up c sz x) K := by
  intro j hj
  unfold va_up
  by_cases e : j = sz
  · simp [e, hx]
  · simp only [e, if_false]
    exact h j (by omega)
theorem l_Reproducer_copyDeck (G : mz_G) (f : mz_H) {b w d a e ea sz si r K : Nat} {F T L : Nat → Nat} {u0 w0 : Int32} {g : Nat → Option Nat} {c : Nat → Nat} (h13 : f 13 = .inr (8, [.ref 14])) (hB : Bd f b w F T L) (hok : BdOk w F T L) (hb : 126 < b ∧ b + 3 < 172) (hd1 : f d = .inr (4, [.ref a, .int (nI sz)])) (hd2 : f a = aQ 6 200 g) (hd4 : f 4 = .inr (5, [.int u0, .int w0])) (hd : 15 < d ∧ d < 172) (ha : 15 < a ∧ a < 172) (he : 15 < e ∧ e < 172) (hea : 15 < ea ∧ ea < 172) (hde : d ≠ e) (hdea : d ≠ ea) (hae : a ≠ e) (haea : a ≠ ea) (heea : e ≠ ea) (heb : e < b ∨ b + 3 < e) (heab : ea < b ∨ b + 3 < ea) (hs : sz ≤ 200) (hP : Ps g sz c K) (hr : si + r ≤ 200) (hKr : K + r ≤ 200) (R : Nat × Nat × (Nat → Nat → Nat) × (Nat → Nat)) :
    ∀ m i H s gi ci gc cl, i + m = sz → i ≤ r → cdF F T w r K si c m i s ci = R → Fr f H [4, 14, 15, e, ea] → H 4 = f 4 → H 14 = .inr (6, [.int (nI 0), .ref 15, .int cl]) → H 15 = aI 16 gc → H e = .inr (4, [.ref ea, .int (nI (si + i))]) → H ea = aQ 6 200 gi → Ps gi (si + i) ci (K + i) → Cd H (K + i) s →
      mz_X G mk_P 8 false b_Reproducer_copyDeck 7 (some .int) (r_Reproducer_copyDeck 400 3400) (cdPost f e ea si K R) (fun _ _ _ => False) 3 [some (.ref 13), some (.ref b), some (.ref d), some (.ref e), some (.int (nI r)), some (.ref 4), some (.int (nI i))] [] (2 * i) (17 * i) (172 + 2 * (K + i)) H := by
  intro m
  induction m with
  | zero =>
    intro i H s gi ci gc cl hi hir hR hF h4 h14 h15 hHe hHea hPi hC
    subst hR
    have k1 : H d = .inr (4, [.ref a, .int (nI sz)]) := by rw [hF d (Or.inl (by omega)) (by simp; omega)]; exact hd1
    have k4 : H 4 = .inr (5, [.int u0, .int w0]) := by rw [h4]; exact hd4
    refine mz_go [81] 12 ?_
    simp only [mz_r0, ev_0, ev_1, ev_2, ev_3, ev_4, ev_5, ev_6, ev_7, ev_8, ev_9, ev_10, ev_11, ev_12, ev_13, ev_14, ev_15, ev_16, ev_17, ev_18, ev_19, ev_20, ev_21, ev_22, ev_23, ev_24, ev_25, ev_26, ev_27, ev_28, ev_29, ev_30, ev_31, ev_32, ev_33, ev_34, ev_35, ev_36, ev_37, ev_38, ev_39, ev_40, ev_41, ev_42, ev_43, ev_44, ev_45, ev_46, ev_47, ev_48, ev_49, ev_50, ev_51, ev_52, ev_53, ev_54, ev_55, ev_56, ev_57, ev_58, ev_59, ev_60, ev_61, ev_62, ev_63, ev_64, ev_65, ev_66, ev_67, ev_68, ev_69, ev_70, ev_71, ev_72, ev_73, ev_74, ev_75, ev_76, ev_77, ev_78, ev_79, ev_80, ev_81, ev_82, ev_83, mk_lit, mk_fin, mk_cat, mk_fit, mk_nar, mk_fld, mk_cls, mk_ty, mk_isr, List.mem_cons, List.not_mem_nil, or_false, or_true, false_or, true_or, Nat.reduceEqDiff, Nat.reduceAdd, Nat.reduceSub, Nat.reduceLT, Nat.reduceLeDiff, ↓reduceIte, if_true, if_false, List.getElem?_cons_zero, List.getElem?_cons_succ, List.set_cons_zero, List.set_cons_succ, List.length_cons, List.length_nil, mz_s1, mz_s2, mz_cl, true_and, and_true, false_and, and_false, List.append_nil, mk_b0, mk_b1, mk_b2, mk_bn, Value.int.injEq, Option.toList_some, Option.toList_none, List.cons_append, List.nil_append, Classical.not_not, Option.some.injEq, reduceCtorEq, ne_eq, not_true_eq_false, not_false_eq_true, false_implies, true_implies, mz_rl d_Reproducer_copyDeck_3, mz_rl d_Reproducer_copyDeck_5, mz_rl d_Reproducer_copyDeck_6, mz_rl d_Reproducer_copyDeck_9, mz_rl d_Reproducer_copyDeck_12, mz_rl d_Reproducer_copyDeck_13, mz_rl d_Reproducer_copyDeck_14, mz_rl d_Reproducer_copyDeck_16, mz_rl d_Reproducer_copyDeck_75, mz_rl d_Reproducer_copyDeck_77, mz_rl d_Reproducer_copyDeck_78, j_Reproducer_copyDeck_9, nF_8, k1, nI_leI (show sz < 2 ^ 31 by omega) (show i < 2 ^ 31 by omega), show sz ≤ i by omega]
    refine mz_callV (by simp only [d_Reproducer_copyDeck_81, Nat.reduceAdd]) g_8_54 rfl (fun _ _ h => h) (c_FaultLight_allDone G mk_P _ H (x := nI sz) k4) k4 rfl rfl ⟨by decide, by show 2 * i + 0 ≤ 400; omega, by show 17 * i + 0 ≤ 3400; omega⟩ (Nat.le_of_ble_eq_true rfl) rfl ?_; intro v_ n_ f_ h_; obtain ⟨rfl, hn_, hf_⟩ := h_; replace hn_ := hn_.symm; replace hf_ := hf_.symm; subst hn_; subst hf_
    refine mz_go [] 12 ?_
    simp only [mz_r0, ev_0, ev_1, ev_2, ev_3, ev_4, ev_5, ev_6, ev_7, ev_8, ev_9, ev_10, ev_11, ev_12, ev_13, ev_14, ev_15, ev_16, ev_17, ev_18, ev_19, ev_20, ev_21, ev_22, ev_23, ev_24, ev_25, ev_26, ev_27, ev_28, ev_29, ev_30, ev_31, ev_32, ev_33, ev_34, ev_35, ev_36, ev_37, ev_38, ev_39, ev_40, ev_41, ev_42, ev_43, ev_44, ev_45, ev_46, ev_47, ev_48, ev_49, ev_50, ev_51, ev_52, ev_53, ev_54, ev_55, ev_56, ev_57, ev_58, ev_59, ev_60, ev_61, ev_62, ev_63, ev_64, ev_65, ev_66, ev_67, ev_68, ev_69, ev_70, ev_71, ev_72, ev_73, ev_74, ev_75, ev_76, ev_77, ev_78, ev_79, ev_80, ev_81, ev_82, ev_83, mk_lit, mk_fin, mk_cat, mk_fit, mk_nar, mk_fld, mk_cls, mk_ty, mk_isr, List.mem_cons, List.not_mem_nil, or_false, or_true, false_or, true_or, Nat.reduceEqDiff, Nat.reduceAdd, Nat.reduceSub, Nat.reduceLT, Nat.reduceLeDiff, ↓reduceIte, if_true, if_false, List.getElem?_cons_zero, List.getElem?_cons_succ, List.set_cons_zero, List.set_cons_succ, List.length_cons, List.length_nil, mz_s1, mz_s2, mz_cl, true_and, and_true, false_and, and_false, List.append_nil, mk_b0, mk_b1, mk_b2, mk_bn, Value.int.injEq, Option.toList_some, Option.toList_none, List.cons_append, List.nil_append, Classical.not_not, Option.some.injEq, reduceCtorEq, ne_eq, not_true_eq_false, not_false_eq_true, false_implies, true_implies, mz_rl d_Reproducer_copyDeck_84, nF_8]
    exact ⟨gi, gc, cl, by show some (Value.int (nI sz)) = some (Value.int (nI i)); congr 3; omega, rfl, by show K + i ≤ 200; omega, by show si + i ≤ 200; omega, Fr_u hF (Or.inl (by simp)) _, mz_u_s _ _ _, by rw [mz_u_n (by decide)]; exact h14, by rw [mz_u_n (by decide)]; exact h15, by rw [mz_u_n (by omega)]; exact hHe, by rw [mz_u_n (by omega)]; exact hHea, hPi, Cd_u hC (by decide) _⟩
  | succ m ih =>
    intro i H s gi ci gc cl hi hir hR hF h4 h14 h15 hHe hHea hPi hC
    unfold cdF at hR
    have k1 : H d = .inr (4, [.ref a, .int (nI sz)]) := by rw [hF d (Or.inl (by omega)) (by simp; omega)]; exact hd1
    have k2 : H a = aQ 6 200 g := by rw [hF a (Or.inl (by omega)) (by simp; omega)]; exact hd2
    have k4 : H 4 = .inr (5, [.int u0, .int w0]) := by rw [h4]; exact hd4
    have k13 : H 13 = .inr (8, [.ref 14]) := by rw [hF 13 (Or.inl (by decide)) (by simp; omega)]; exact h13
    have kB : Bd H b w F T L := by
      unfold Bd
      rw [hF b (Or.inl (by omega)) (by simp; omega), hF (b + 1) (Or.inl (by omega)) (by simp; omega), hF (b + 2) (Or.inl (by omega)) (by simp; omega), hF (b + 3) (Or.inl (by omega)) (by simp; omega)]
      exact hB
    have e1 := hP i (by omega)
    have hx : c i < K + i := by omega
    refine mz_go [16] 12 ?_
    simp only [mz_r0, ev_0, ev_1, ev_2, ev_3, ev_4, ev_5, ev_6, ev_7, ev_8, ev_9, ev_10, ev_11, ev_12, ev_13, ev_14, ev_15, ev_16, ev_17, ev_18, ev_19, ev_20, ev_21, ev_22, ev_23, ev_24, ev_25, ev_26, ev_27, ev_28, ev_29, ev_30, ev_31, ev_32, ev_33, ev_34, ev_35, ev_36, ev_37, ev_38, ev_39, ev_40, ev_41, ev_42, ev_43, ev_44, ev_45, ev_46, ev_47, ev_48, ev_49, ev_50, ev_51, ev_52, ev_53, ev_54, ev_55, ev_56, ev_57, ev_58, ev_59, ev_60, ev_61, ev_62, ev_63, ev_64, ev_65, ev_66, ev_67, ev_68, ev_69, ev_70, ev_71, ev_72, ev_73, ev_74, ev_75, ev_76, ev_77, ev_78, ev_79, ev_80, ev_81, ev_82, ev_83, mk_lit, mk_fin, mk_cat, mk_fit, mk_nar, mk_fld, mk_cls, mk_ty, mk_isr, List.mem_cons, List.not_mem_nil, or_false, or_true, false_or, true_or, Nat.reduceEqDiff, Nat.reduceAdd, Nat.reduceSub, Nat.reduceLT, Nat.reduceLeDiff, ↓reduceIte, if_true, if_false, List.getElem?_cons_zero, List.getElem?_cons_succ, List.set_cons_zero, List.set_cons_succ, List.length_cons, List.length_nil, mz_s1, mz_s2, mz_cl, true_and, and_true, false_and, and_false, List.append_nil, mk_b0, mk_b1, mk_b2, mk_bn, Value.int.injEq, Option.toList_some, Option.toList_none, List.cons_append, List.nil_append, Classical.not_not, Option.some.injEq, reduceCtorEq, ne_eq, not_true_eq_false, not_false_eq_true, false_implies, true_implies, mz_rl d_Reproducer_copyDeck_3, mz_rl d_Reproducer_copyDeck_5, mz_rl d_Reproducer_copyDeck_6, mz_rl d_Reproducer_copyDeck_9, mz_rl d_Reproducer_copyDeck_12, mz_rl d_Reproducer_copyDeck_13, mz_rl d_Reproducer_copyDeck_14, mz_rl d_Reproducer_copyDeck_75, mz_rl d_Reproducer_copyDeck_77, mz_rl d_Reproducer_copyDeck_78, mz_rl d_Reproducer_copyDeck_81, j_Reproducer_copyDeck_9, nF_8, k1, nI_leI (show sz < 2 ^ 31 by omega) (show i < 2 ^ 31 by omega), show ¬ sz ≤ i by omega]
    refine mz_callV (by simp only [d_Reproducer_copyDeck_16, Nat.reduceAdd]) g_8_26 rfl (fun _ _ h => h) (c_Deck_at G mk_P _ H k1 k2 (show i < 200 by omega) e1.1) k1 rfl rfl ⟨by decide, by show 2 * i + 0 ≤ 400; omega, by show 17 * i + 0 ≤ 3400; omega⟩ (Nat.le_of_ble_eq_true rfl) rfl ?_; intro v_ n_ f_ h_; obtain ⟨rfl, hn_, hf_⟩ := h_; replace hn_ := hn_.symm; replace hf_ := hf_.symm; subst hn_; subst hf_
    refine mz_go [23] 12 ?_
    simp only [mz_r0, ev_0, ev_1, ev_2, ev_3, ev_4, ev_5, ev_6, ev_7, ev_8, ev_9, ev_10, ev_11, ev_12, ev_13, ev_14, ev_15, ev_16, ev_17, ev_18, ev_19, ev_20, ev_21, ev_22, ev_23, ev_24, ev_25, ev_26, ev_27, ev_28, ev_29, ev_30, ev_31, ev_32, ev_33, ev_34, ev_35, ev_36, ev_37, ev_38, ev_39, ev_40, ev_41, ev_42, ev_43, ev_44, ev_45, ev_46, ev_47, ev_48, ev_49, ev_50, ev_51, ev_52, ev_53, ev_54, ev_55, ev_56, ev_57, ev_58, ev_59, ev_60, ev_61, ev_62, ev_63, ev_64, ev_65, ev_66, ev_67, ev_68, ev_69, ev_70, ev_71, ev_72, ev_73, ev_74, ev_75, ev_76, ev_77, ev_78, ev_79, ev_80, ev_81, ev_82, ev_83, mk_lit, mk_fin, mk_cat, mk_fit, mk_nar, mk_fld, mk_cls, mk_ty, mk_isr, List.mem_cons, List.not_mem_nil, or_false, or_true, false_or, true_or, Nat.reduceEqDiff, Nat.reduceAdd, Nat.reduceSub, Nat.reduceLT, Nat.reduceLeDiff, ↓reduceIte, if_true, if_false, List.getElem?_cons_zero, List.getElem?_cons_succ, List.set_cons_zero, List.set_cons_succ, List.length_cons, List.length_nil, mz_s1, mz_s2, mz_cl, true_and, and_true, false_and, and_false, List.append_nil, mk_b0, mk_b1, mk_b2, mk_bn, Value.int.injEq, Option.toList_some, Option.toList_none, List.cons_append, List.nil_append, Classical.not_not, Option.some.injEq, reduceCtorEq, ne_eq, not_true_eq_false, not_false_eq_true, false_implies, true_implies, mz_rl d_Reproducer_copyDeck_19, mz_rl d_Reproducer_copyDeck_20, nF_8, k13]
    refine mz_callV (by simp only [d_Reproducer_copyDeck_23, Nat.reduceAdd]) g_8_30 rfl (fun _ _ h => h) (c_Board_bringFromCard G mk_P _ H kB hok hC hx h14 h15 (by decide) (by decide) (by omega) (by omega) (by decide)) kB.1 rfl rfl ⟨by decide, by show 2 * i + 0 + 0 ≤ 400; omega, by show 17 * i + 0 + 0 ≤ 3400; omega⟩ (Nat.le_of_ble_eq_true rfl) rfl ?_; intro v_ n_ f_ h_; obtain ⟨rfl, hn_, hf_⟩ := h_; replace hn_ := hn_.symm; replace hf_ := hf_.symm; subst hn_; subst hf_
    obtain ⟨y, hy⟩ : ∃ y, y = brC F T (s (c i)) 0 16 w (cpy (fun _ => -1) gc 16, nI 0) := ⟨_, rfl⟩
    rw [← hy]
    obtain ⟨y1, y2⟩ := brC_ok (q := 0) (N := 16) (z := (cpy (fun _ => -1) gc 16, nI 0)) hok (hC _ hx).2.2 fill_ok (Or.inl rfl) w (Nat.le_refl _)
    rw [← hy] at y1 y2
    obtain ⟨y3, y4⟩ := brC_col (T := T) (gc := gc) hok (hC _ hx).2.2
    rw [← hy] at y3 y4
    obtain ⟨H2, hH2⟩ : ∃ H2, H2 = jH H 14 15 0 16 y.1 y.2 := ⟨_, rfl⟩
    rw [← hH2]
    have q14 : H2 14 = .inr (6, [.int (nI 0), .ref 15, .int y.2]) := by rw [hH2]; exact mz_u_s _ _ _
    have q15 : H2 15 = aI 16 y.1 := by rw [hH2]; unfold jH; rw [mz_u_n (by decide), mz_u_s]
    have qo : ∀ z, z ≠ 14 → z ≠ 15 → H2 z = H z := fun z z1 z2 => by rw [hH2]; unfold jH; rw [mz_u_n z1, mz_u_n z2]
    have q13 := (qo 13 (by decide) (by decide)).trans k13
    have q4 := (qo 4 (by decide) (by decide)).trans k4
    have qe := (qo e (by omega) (by omega)).trans hHe
    have qea := (qo ea (by omega) (by omega)).trans hHea
    have qC : Cd H2 (K + i) s := by rw [hH2]; exact Cd_u (Cd_u hC (by decide) _) (by decide) _
    have qF : Fr f H2 [4, 14, 15, e, ea] := by rw [hH2]; exact Fr_u (Fr_u hF (Or.inl (by simp)) _) (Or.inl (by simp)) _
    have stop : ∀ x : Nat, x ≠ 0 → cdPost f e ea si K (x, i, s, ci) (some (.int (nI i))) (172 + 2 * (K + i)) (mz_u H2 4 (.inr (5, [.int (nI x), .int (nI i)]))) := fun x hx0 =>
      ⟨gi, y.1, y.2, rfl, rfl, by show K + i ≤ 200; omega, by show si + i ≤ 200; omega, Fr_u qF (Or.inl (by simp)) _, by unfold lightC; rw [if_neg hx0]; exact mz_u_s _ _ _, by rw [mz_u_n (by decide)]; exact q14, by rw [mz_u_n (by decide)]; exact q15, by rw [mz_u_n (by omega)]; exact qe, by rw [mz_u_n (by omega)]; exact qea, hPi, Cd_u qC (by decide) _⟩
    refine mz_go [41, 57, 63] 30 ?_
    have z0 : (y.2 = 0) = (y.2 = nI 0) := rfl
    simp only [mz_r0, ev_0, ev_1, ev_2, ev_3, ev_4, ev_5, ev_6, ev_7, ev_8, ev_9, ev_10, ev_11, ev_12, ev_13, ev_14, ev_15, ev_16, ev_17, ev_18, ev_19, ev_20, ev_21, ev_22, ev_23, ev_24, ev_25, ev_26, ev_27, ev_28, ev_29, ev_30, ev_31, ev_32, ev_33, ev_34, ev_35, ev_36, ev_37, ev_38, ev_39, ev_40, ev_41, ev_42, ev_43, ev_44, ev_45, ev_46, ev_47, ev_48, ev_49, ev_50, ev_51, ev_52, ev_53, ev_54, ev_55, ev_56, ev_57, ev_58, ev_59, ev_60, ev_61, ev_62, ev_63, ev_64, ev_65, ev_66, ev_67, ev_68, ev_69, ev_70, ev_71, ev_72, ev_73, ev_74, ev_75, ev_76, ev_77, ev_78, ev_79, ev_80, ev_81, ev_82, ev_83, mk_lit, mk_fin, mk_cat, mk_fit, mk_nar, mk_fld, mk_cls, mk_ty, mk_isr, List.mem_cons, List.not_mem_nil, or_false, or_true, false_or, true_or, Nat.reduceEqDiff, Nat.reduceAdd, Nat.reduceSub, Nat.reduceLT, Nat.reduceLeDiff, ↓reduceIte, if_true, if_false, List.getElem?_cons_zero, List.getElem?_cons_succ, List.set_cons_zero, List.set_cons_succ, List.length_cons, List.length_nil, mz_s1, mz_s2, mz_cl, true_and, and_true, false_and, and_false, List.append_nil, mk_b0, mk_b1, mk_b2, mk_bn, Value.int.injEq, Option.toList_some, Option.toList_none, List.cons_append, List.nil_append, Classical.not_not, Option.some.injEq, reduceCtorEq, ne_eq, not_true_eq_false, not_false_eq_true, false_implies, true_implies, mz_rl d_Reproducer_copyDeck_26, mz_rl d_Reproducer_copyDeck_27, mz_rl d_Reproducer_copyDeck_30, mz_rl d_Reproducer_copyDeck_33, mz_rl d_Reproducer_copyDeck_36, mz_rl d_Reproducer_copyDeck_38, mz_rl d_Reproducer_copyDeck_39, mz_rl d_Reproducer_copyDeck_45, mz_rl d_Reproducer_copyDeck_47, mz_rl d_Reproducer_copyDeck_49, mz_rl d_Reproducer_copyDeck_52, mz_rl d_Reproducer_copyDeck_54, mz_rl d_Reproducer_copyDeck_55, mz_rl d_Reproducer_copyDeck_61, mz_rl d_Reproducer_copyDeck_62, j_Reproducer_copyDeck_33, j_Reproducer_copyDeck_49, nF_8, q13, q14, nI_ltI (show i < 2 ^ 31 by omega) (show r < 2 ^ 31 by omega)]
    refine ⟨fun hc0 => ⟨fun hc1 => ?_, fun hc1 => ?_⟩, fun hc0 => ?_⟩
    · have hcl := y3.mp hc0
      rw [hcl, if_neg (by decide), if_pos hc1] at hR
      have en9 : cpy (nwc y.1) (fun _ => 0) 16 = cpy (nsN F T (s (c i)) w) (fun _ => 0) 16 := by
        funext j
        unfold cpy
        by_cases hj : j < 16
        · rw [if_pos hj, if_pos hj]; unfold nwc nsN; rw [y4 hcl j hj]
        · rw [if_neg hj, if_neg hj]
      refine mz_callV (by simp only [d_Reproducer_copyDeck_63, Nat.reduceAdd]) g_8_46 rfl (fun _ _ h => h) (c_Reproducer_newCard G mk_P _ H2 q13 q14 q15 (by omega) (by unfold mz_e0; omega) y1) q13 rfl rfl ⟨by decide, by show 2 * i + 0 + 0 + 2 ≤ 400; omega, by show 17 * i + 0 + 0 + 17 ≤ 3400; omega⟩ (Nat.le_of_ble_eq_true rfl) rfl ?_; intro v_ n_ f_ h_; obtain ⟨rfl, hn_, hf_⟩ := h_; replace hn_ := hn_.symm; replace hf_ := hf_.symm; subst hn_; subst hf_
      have nK := Cd_new qC (nwc_sg y1)
      rw [en9] at nK ⊢
      obtain ⟨H3, hH3⟩ : ∃ H3, H3 = mz_u (mz_u H2 (172 + 2 * (K + i)) (.inr (2, [.ref (172 + 2 * (K + i) + 1)]))) (172 + 2 * (K + i) + 1) (aI 16 (fun j => nI (cpy (nsN F T (s (c i)) w) (fun _ => 0) 16 j))) := ⟨_, rfl⟩
      rw [← hH3] at nK ⊢
      have ro : ∀ z, z < 172 → H3 z = H2 z := fun z hz => by rw [hH3, mz_u_n (by omega), mz_u_n (by omega)]
      have re := (ro e he.2).trans qe
      have rea := (ro ea hea.2).trans qea
      have rc := (nK (K + i) (by omega)).1
      refine mz_callV (by simp only [d_Reproducer_copyDeck_66, Nat.reduceAdd]) g_8_50 rfl (fun _ _ h => h) (c_Deck_add G mk_P _ H3 re rea rc (show si + i < 200 by omega)) re rfl rfl ⟨by decide, by show 2 * i + 0 + 0 + 2 + 0 ≤ 400; omega, by show 17 * i + 0 + 0 + 17 + 0 ≤ 3400; omega⟩ (Nat.le_of_ble_eq_true rfl) rfl ?_; intro v_ n_ f_ h_; obtain ⟨rfl, hn_, hf_⟩ := h_; replace hn_ := hn_.symm; replace hf_ := hf_.symm; subst hn_; subst hf_
      have hnx := ih (i + 1) (mz_u (mz_u H3 ea (aQ 6 200 (va_up gi (si + i) (some (172 + 2 * (K + i)))))) e (.inr (4, [.ref ea, .int (nI (si + i + 1))]))) _ _ (va_up ci (si + i) (K + i)) y.1 y.2 (by omega) (by omega) hR (Fr_u (Fr_u (fun z hz hS => by
          rcases hz with hz | rfl
          · rw [ro z hz]; exact qF z (Or.inl hz) hS
          · rw [hH3, mz_u_n (by omega), mz_u_n (by omega)]; exact qF _ (Or.inr rfl) hS) (Or.inl (by simp)) _) (Or.inl (by simp)) _)
        (by rw [mz_u_n (by omega), mz_u_n (by omega), ro 4 (by decide), q4, hd4]) (by rw [mz_u_n (by omega), mz_u_n (by omega), ro 14 (by decide)]; exact q14) (by rw [mz_u_n (by omega), mz_u_n (by omega), ro 15 (by decide)]; exact q15) (mz_u_s _ _ _) (by rw [mz_u_n (Ne.symm heea), mz_u_s]) (Ps_add (Ps_mono hPi (by omega)) (by omega)) (Cd_u (Cd_u nK hea.2 _) he.2 _)
      refine mz_go [3] 12 ?_
      simp only [mz_r0, ev_0, ev_1, ev_2, ev_3, ev_4, ev_5, ev_6, ev_7, ev_8, ev_9, ev_10, ev_11, ev_12, ev_13, ev_14, ev_15, ev_16, ev_17, ev_18, ev_19, ev_20, ev_21, ev_22, ev_23, ev_24, ev_25, ev_26, ev_27, ev_28, ev_29, ev_30, ev_31, ev_32, ev_33, ev_34, ev_35, ev_36, ev_37, ev_38, ev_39, ev_40, ev_41, ev_42, ev_43, ev_44, ev_45, ev_46, ev_47, ev_48, ev_49, ev_50, ev_51, ev_52, ev_53, ev_54, ev_55, ev_56, ev_57, ev_58, ev_59, ev_60, ev_61, ev_62, ev_63, ev_64, ev_65, ev_66, ev_67, ev_68, ev_69, ev_70, ev_71, ev_72, ev_73, ev_74, ev_75, ev_76, ev_77, ev_78, ev_79, ev_80, ev_81, ev_82, ev_83, mk_lit, mk_fin, mk_cat, mk_fit, mk_nar, mk_fld, mk_cls, mk_ty, mk_isr, List.mem_cons, List.not_mem_nil, or_false, or_true, false_or, true_or, Nat.reduceEqDiff, Nat.reduceAdd, Nat.reduceSub, Nat.reduceLT, Nat.reduceLeDiff, ↓reduceIte, if_true, if_false, List.getElem?_cons_zero, List.getElem?_cons_succ, List.set_cons_zero, List.set_cons_succ, List.length_cons, List.length_nil, mz_s1, mz_s2, mz_cl, true_and, and_true, false_and, and_false, List.append_nil, mk_b0, mk_b1, mk_b2, mk_bn, Value.int.injEq, Option.toList_some, Option.toList_none, List.cons_append, List.nil_append, Classical.not_not, Option.some.injEq, reduceCtorEq, ne_eq, not_true_eq_false, not_false_eq_true, false_implies, true_implies, mz_rl d_Reproducer_copyDeck_69, mz_rl d_Reproducer_copyDeck_72, j_Reproducer_copyDeck_72, nF_8, nI_add]
      have en : 172 + 2 * (K + (i + 1)) = 172 + 2 * (K + i) + 2 := by omega
      have ek1 : 2 * (i + 1) = 2 * i + (r_Deck_at 0 0).cells + (r_Board_bringFromCard 0 0).cells + (r_Reproducer_newCard 2 17).cells + (r_Deck_add 0 0).cells := by show _ = 2 * i + 0 + 0 + 2 + 0; omega
      have ek2 : 17 * (i + 1) = 17 * i + (r_Deck_at 0 0).slots + (r_Board_bringFromCard 0 0).slots + (r_Reproducer_newCard 2 17).slots + (r_Deck_add 0 0).slots := by show _ = 17 * i + 0 + 0 + 17 + 0; omega
      rw [en, ek1, ek2] at hnx
      exact hnx
    · have hcl := y3.mp hc0
      rw [hcl, if_neg (by decide), if_neg hc1] at hR
      subst hR
      refine mz_callV (by simp only [d_Reproducer_copyDeck_57, Nat.reduceAdd]) g_8_40 rfl (fun _ _ h => h) (c_FaultLight_stopAt G mk_P _ H2 (x := nI 4) (y := nI i) q4) q4 rfl rfl ⟨by decide, by show 2 * i + 0 + 0 + 0 ≤ 400; omega, by show 17 * i + 0 + 0 + 0 ≤ 3400; omega⟩ (Nat.le_of_ble_eq_true rfl) rfl ?_; intro v_ n_ f_ h_; obtain ⟨rfl, hn_, hf_⟩ := h_; replace hn_ := hn_.symm; replace hf_ := hf_.symm; subst hn_; subst hf_
      refine mz_go [] 12 ?_
      simp only [mz_r0, ev_0, ev_1, ev_2, ev_3, ev_4, ev_5, ev_6, ev_7, ev_8, ev_9, ev_10, ev_11, ev_12, ev_13, ev_14, ev_15, ev_16, ev_17, ev_18, ev_19, ev_20, ev_21, ev_22, ev_23, ev_24, ev_25, ev_26, ev_27, ev_28, ev_29, ev_30, ev_31, ev_32, ev_33, ev_34, ev_35, ev_36, ev_37, ev_38, ev_39, ev_40, ev_41, ev_42, ev_43, ev_44, ev_45, ev_46, ev_47, ev_48, ev_49, ev_50, ev_51, ev_52, ev_53, ev_54, ev_55, ev_56, ev_57, ev_58, ev_59, ev_60, ev_61, ev_62, ev_63, ev_64, ev_65, ev_66, ev_67, ev_68, ev_69, ev_70, ev_71, ev_72, ev_73, ev_74, ev_75, ev_76, ev_77, ev_78, ev_79, ev_80, ev_81, ev_82, ev_83, mk_lit, mk_fin, mk_cat, mk_fit, mk_nar, mk_fld, mk_cls, mk_ty, mk_isr, List.mem_cons, List.not_mem_nil, or_false, or_true, false_or, true_or, Nat.reduceEqDiff, Nat.reduceAdd, Nat.reduceSub, Nat.reduceLT, Nat.reduceLeDiff, ↓reduceIte, if_true, if_false, List.getElem?_cons_zero, List.getElem?_cons_succ, List.set_cons_zero, List.set_cons_succ, List.length_cons, List.length_nil, mz_s1, mz_s2, mz_cl, true_and, and_true, false_and, and_false, List.append_nil, mk_b0, mk_b1, mk_b2, mk_bn, Value.int.injEq, Option.toList_some, Option.toList_none, List.cons_append, List.nil_append, Classical.not_not, Option.some.injEq, reduceCtorEq, ne_eq, not_true_eq_false, not_false_eq_true, false_implies, true_implies, mz_rl d_Reproducer_copyDeck_60, nF_8]
      exact stop 4 (by decide)
    · have hcl : clB F T (s (c i)) 0 w 16 = true := by
        cases e9 : clB F T (s (c i)) 0 w 16 with
        | true => rfl
        | false => exact absurd (y3.mpr e9) hc0
      rw [hcl, if_pos rfl] at hR
      subst hR
      refine mz_callV (by simp only [d_Reproducer_copyDeck_41, Nat.reduceAdd]) g_8_40 rfl (fun _ _ h => h) (c_FaultLight_stopAt G mk_P _ H2 (x := nI 2) (y := nI i) q4) q4 rfl rfl ⟨by decide, by show 2 * i + 0 + 0 + 0 ≤ 400; omega, by show 17 * i + 0 + 0 + 0 ≤ 3400; omega⟩ (Nat.le_of_ble_eq_true rfl) rfl ?_; intro v_ n_ f_ h_; obtain ⟨rfl, hn_, hf_⟩ := h_; replace hn_ := hn_.symm; replace hf_ := hf_.symm; subst hn_; subst hf_
      refine mz_go [] 12 ?_
      simp only [mz_r0, ev_0, ev_1, ev_2, ev_3, ev_4, ev_5, ev_6, ev_7, ev_8, ev_9, ev_10, ev_11, ev_12, ev_13, ev_14, ev_15, ev_16, ev_17, ev_18, ev_19, ev_20, ev_21, ev_22, ev_23, ev_24, ev_25, ev_26, ev_27, ev_28, ev_29, ev_30, ev_31, ev_32, ev_33, ev_34, ev_35, ev_36, ev_37, ev_38, ev_39, ev_40, ev_41, ev_42, ev_43, ev_44, ev_45, ev_46, ev_47, ev_48, ev_49, ev_50, ev_51, ev_52, ev_53, ev_54, ev_55, ev_56, ev_57, ev_58, ev_59, ev_60, ev_61, ev_62, ev_63, ev_64, ev_65, ev_66, ev_67, ev_68, ev_69, ev_70, ev_71, ev_72, ev_73, ev_74, ev_75, ev_76, ev_77, ev_78, ev_79, ev_80, ev_81, ev_82, ev_83, mk_lit, mk_fin, mk_cat, mk_fit, mk_nar, mk_fld, mk_cls, mk_ty, mk_isr, List.mem_cons, List.not_mem_nil, or_false, or_true, false_or, true_or, Nat.reduceEqDiff, Nat.reduceAdd, Nat.reduceSub, Nat.reduceLT, Nat.reduceLeDiff, ↓reduceIte, if_true, if_false, List.getElem?_cons_zero, List.getElem?_cons_succ, List.set_cons_zero, List.set_cons_succ, List.length_cons, List.length_nil, mz_s1, mz_s2, mz_cl, true_and, and_true, false_and, and_false, List.append_nil, mk_b0, mk_b1, mk_b2, mk_bn, Value.int.injEq, Option.toList_some, Option.toList_none, List.cons_append, List.nil_append, Classical.not_not, Option.some.injEq, reduceCtorEq, ne_eq, not_true_eq_false, not_false_eq_true, false_implies, true_implies, mz_rl d_Reproducer_copyDeck_44, nF_8]
      exact stop 2 (by decide)
