/-! what tabulate reads in the reference, exactly -/
theorem bq_iff {a b : Bool} (h : a = true ↔ b = true) : a = b := by
  cases a <;> cases b
  · rfl
  · exact h.mpr rfl
  · exact (h.mp rfl).symm
  · rfl
theorem hlR_iff {L : Nat → Int32} {b : Nat} {lv : Int32} : ∀ N, hlR L b lv N = true ↔ ∃ c, c < N ∧ L (4 * b + c) = lv := by
  intro N
  induction N with
  | zero => exact ⟨fun z => (by cases z), fun ⟨p, hp, _⟩ => absurd hp (Nat.not_lt_zero _)⟩
  | succ N ih =>
    unfold hlR
    rw [Bool.or_eq_true, ih, decide_eq_true_eq]
    constructor
    · rintro (⟨p, hp, e⟩ | e)
      · exact ⟨p, by omega, e⟩
      · exact ⟨N, by omega, e⟩
    · rintro ⟨p, hp, e⟩
      by_cases h : p = N
      · subst h; exact Or.inr e
      · exact Or.inl ⟨p, by omega, e⟩
theorem hcB_iff {L : Nat → Nat} {v : Nat} : hcB L v = true ↔ ∃ c, c < 4 ∧ L c = v := by
  constructor
  · intro h
    unfold hcB at h
    simp only [Bool.or_eq_true, decide_eq_true_eq] at h
    rcases h with h | h | h | h
    · exact ⟨0, by decide, h⟩
    · exact ⟨1, by decide, h⟩
    · exact ⟨2, by decide, h⟩
    · exact ⟨3, by decide, h⟩
  · rintro ⟨c, hc, h⟩
    exact hcB_of hc h
theorem hl_hc {gl : Nat → Int32} {L : Nat → Nat} {b lv : Nat} (hl : ∀ c, c < 4 → gl (4 * b + c) = nI (L c)) (hL : ∀ c, c < 4 → L c < 4) (hlv : lv < 2 ^ 31) : hlR gl b (nI lv) 4 = hcB L lv := by
  refine bq_iff ?_
  rw [hlR_iff, hcB_iff]
  constructor
  · rintro ⟨c, hc, e⟩
    rw [hl c hc] at e
    exact ⟨c, hc, (nI_eq (by have := hL c hc; omega) hlv).mp e⟩
  · rintro ⟨c, hc, e⟩
    exact ⟨c, hc, by rw [hl c hc, e]⟩
theorem ilR_iff {g : Nat → Int32} {b : Nat} : ∀ N, ilR g b N = true ↔ ∃ c, c < N ∧ g (40 * b + c) = nI 99 := by
  intro N
  induction N with
  | zero => exact ⟨fun z => (by cases z), fun ⟨p, hp, _⟩ => absurd hp (Nat.not_lt_zero _)⟩
  | succ N ih =>
    unfold ilR
    rw [Bool.or_eq_true, ih, decide_eq_true_eq]
    constructor
    · rintro (⟨p, hp, e⟩ | e)
      · exact ⟨p, by omega, e⟩
      · exact ⟨N, by omega, e⟩
    · rintro ⟨p, hp, e⟩
      by_cases h : p = N
      · subst h; exact Or.inr e
      · exact Or.inl ⟨p, by omega, e⟩
theorem lsB_iff {T : Nat → Nat} : ∀ m i, lsB T i m = true ↔ ∃ k, i ≤ k ∧ k < i + m ∧ T k = 99 := by
  intro m
  induction m with
  | zero => intro i; exact ⟨fun z => (by cases z), fun ⟨k, h1, h2, _⟩ => absurd h2 (by omega)⟩
  | succ m ih =>
    intro i
    unfold lsB
    by_cases h : T i = 99
    · rw [if_pos h]; exact ⟨fun _ => ⟨i, by omega, by omega, h⟩, fun _ => rfl⟩
    · rw [if_neg h, ih]
      constructor
      · rintro ⟨k, h1, h2, e⟩; exact ⟨k, by omega, by omega, e⟩
      · rintro ⟨k, h1, h2, e⟩
        by_cases q : k = i
        · subst q; exact absurd e h
        · exact ⟨k, by omega, by omega, e⟩
theorem il_ls {gt : Nat → Int32} {T : Nat → Nat} {b w : Nat} (ht : ∀ k, k < w → gt (40 * b + k) = nI (T k)) (hT : ∀ k, k < w → T k < 100) : ilR gt b w = lsB T 0 w := by
  refine bq_iff ?_
  rw [ilR_iff, lsB_iff]
  constructor
  · rintro ⟨c, hc, e⟩
    rw [ht c hc] at e
    exact ⟨c, by omega, by omega, (nI_eq (by have := hT c hc; omega) (by decide)).mp e⟩
  · rintro ⟨c, h0, hc, e⟩
    exact ⟨c, by omega, by rw [ht c (by omega), e]⟩
theorem c_Model_hasLevelX {cD sD : Nat → Nat → Nat} (G : mz_G) (n : Nat) (f : mz_H) {K ln b lv : Nat} {S : Nat → Nat} {B : bS} (h : MP f K ln S B.1 cD sD) (hM : MX f B) (hk : bOk B) (hb : b < 4) (hlv : lv < 2 ^ 31) : mz_Ct G mk_P y_Model_hasLevel b_Model_hasLevel 5 (some .boolean) (r_Model_hasLevel 0 0) [.ref 158, .int (nI b), .int (nI lv)] n f (fun v n' f' => v = some (.int (mk_b (hcB (B.2.2.2 b) lv = true))) ∧ n' = n ∧ f' = f) := by
  obtain ⟨t, p, br, u, a, e158⟩ := h.1.1
  obtain ⟨m1, gf, gt, gl, m2, m3, m4, m5⟩ := hM
  have := c_Model_hasLevel G n f (nI lv) e158 m4 hb
  rw [hl_hc (m5 b hb).2 (hk b hb).2.2 hlv] at this
  exact this
theorem c_Model_isListedX {cD sD : Nat → Nat → Nat} (G : mz_G) (n : Nat) (f : mz_H) {K ln b : Nat} {S : Nat → Nat} {B : bS} (h : MP f K ln S B.1 cD sD) (hM : MX f B) (hk : bOk B) (hb : b < 4) : mz_Ct G mk_P y_Model_isListed b_Model_isListed 4 (some .boolean) (r_Model_isListed 0 0) [.ref 158, .int (nI b)] n f (fun v n' f' => v = some (.int (mk_b (lsB (B.2.2.1 b) 0 (B.1 b) = true))) ∧ n' = n ∧ f' = f) := by
  obtain ⟨t, p, br, u, a, e158⟩ := h.1.1
  obtain ⟨m1, gf, gt, gl, m2, m3, m4, m5⟩ := hM
  have := c_Model_isListed G n f e158 m3 m1 (hk b hb).1 hb
  rw [il_ls (T := B.2.2.1 b) (fun k hkb => ((m5 b hb).1 k hkb).2) (fun k hkb => okT_lt ((hk b hb).2.1 k hkb).2)] at this
  exact this
theorem lt32 : ∀ y, y < 32 → nI y - nI 32 < (0 : Int32) := by decide +kernel
theorem lbN_s {F T a c : Nat → Nat} {lv k : Nat} : lv < lbN F T a c (k + 1) ↔ lv < lbN F T a c k ∨ ((96 + lv ≤ T k ∧ T k < 99 ∧ F k < 16) ∧ ¬ a (F k) = c (F k)) := by
  show lv < (if 96 ≤ T k ∧ T k < 99 ∧ F k < 16 ∧ c (F k) ≠ a (F k) then max (lbN F T a c k) (T k - 96 + 1) else lbN F T a c k) ↔ _
  by_cases h : 96 ≤ T k ∧ T k < 99 ∧ F k < 16 ∧ c (F k) ≠ a (F k)
  · rw [if_pos h]
    obtain ⟨h1, h2, h3, h4⟩ := h
    have h5 : ¬ a (F k) = c (F k) := fun z => h4 z.symm
    constructor
    · intro z
      rcases Nat.lt_or_ge lv (lbN F T a c k) with q | q
      · exact Or.inl q
      · exact Or.inr ⟨⟨by omega, h2, h3⟩, h5⟩
    · rintro (z | ⟨⟨z, -, -⟩, -⟩) <;> omega
  · rw [if_neg h]
    constructor
    · exact Or.inl
    · rintro (z | ⟨⟨z1, z2, z3⟩, z4⟩)
      · exact z
      · exact absurd ⟨by omega, z2, z3, fun q => z4 q.symm⟩ h
theorem l_Model_breaks {cD sD : Nat → Nat → Nat} (G : mz_G) (n : Nat) (f : mz_H) {K ln b x y lv : Nat} {t p br u a : Int32} {S W F T L : Nat → Nat} {gf gt : Nat → Int32} (e158 : f 158 = mo t K ln p br u a) (h : MP f K ln S W cD sD) (e164 : f 164 = aB 160 gf) (e165 : f 165 = aB 160 gt) (hok : BdOk (W b) F T L) (hv : ∀ k, k < W b → gf (40 * b + k) = nI (F k) ∧ gt (40 * b + k) = nI (T k)) (hb : b < 4) (hx : x < K) (hy : y < K) (hlv : lv < 3) :
    ∀ m k w7 w8, k + m = W b → mz_X G mk_P 11 false b_Model_breaks 9 (some .boolean) (r_Model_breaks 0 0) (fun v n' f' => v = some (.int (mk_b (lv < lbN F T (sD x) (sD y) (W b)))) ∧ n' = n ∧ f' = f) (fun _ _ _ => False) 9 [some (.ref 158), some (.int (nI b)), some (.int (nI lv)), some (.int (nI x)), some (.int (nI y)), some (.int (mk_b (lv < lbN F T (sD x) (sD y) k))), some (.int (nI (40 * b + k))), w7, w8] [] 0 0 n f := by
  have e166 := h.2.2.1.1
  have hW := hok.1
  have z1 : ¬ nI 1 = 0 := by decide
  have z0 : (nI 0 = 0) = True := eq_true rfl
  intro m
  induction m with
  | zero =>
    intro k w7 w8 hk
    have : k = W b := by omega
    subst this
    refine mz_go [9] 30 ?_
    simp only [mz_run, ev_0, ev_1, ev_2, ev_3, ev_4, ev_5, ev_6, ev_7, ev_8, ev_9, ev_10, ev_11, ev_12, ev_13, ev_14, ev_15, ev_16, ev_17, ev_18, ev_19, ev_20, ev_21, ev_22, ev_23, ev_24, ev_25, ev_26, ev_27, ev_28, ev_29, ev_30, ev_31, ev_32, ev_33, ev_34, ev_35, ev_36, ev_37, ev_38, ev_39, ev_40, ev_41, ev_42, ev_43, ev_44, ev_45, ev_46, ev_47, ev_48, ev_49, ev_50, ev_51, ev_52, ev_53, ev_54, ev_55, ev_56, ev_57, ev_58, ev_59, ev_60, ev_61, ev_62, ev_63, ev_64, ev_65, ev_66, ev_67, ev_68, ev_69, ev_70, ev_71, ev_72, ev_73, ev_74, ev_75, ev_76, ev_77, ev_78, ev_79, ev_80, ev_81, ev_82, ev_83, mk_lit, mk_fin, mk_cat, mk_fit, mk_nar, mk_fld, mk_cls, mk_ty, mk_isr, List.mem_cons, List.not_mem_nil, or_false, or_true, false_or, true_or, Nat.reduceEqDiff, Nat.reduceAdd, Nat.reduceSub, Nat.reduceLT, Nat.reduceLeDiff, reduceIte, if_true, if_false, List.getElem?_cons_zero, List.getElem?_cons_succ, List.set_cons_zero, List.set_cons_succ, List.length_cons, List.length_nil, mz_s1, mz_s2, mz_cl, true_and, and_true, false_and, and_false, List.append_nil, mk_b0, mk_b1, mk_b2, mk_bn, Value.int.injEq, Option.toList_some, Option.toList_none, List.cons_append, List.nil_append, Classical.not_not, Option.some.injEq, reduceCtorEq, ne_eq, not_true_eq_false, not_false_eq_true, false_implies, true_implies, d_Model_breaks, j_Model_breaks, nF_11, e158, e166, mo, pk_mul, nI_add, vp_in_nI (show b < 4 by omega) (show 4 < 2 ^ 31 by decide), nI_clamp (show b < 2 ^ 31 by omega), nI_leI (show 40 * b + W b < 2 ^ 31 by omega) (show 40 * b + W b < 2 ^ 31 by omega), Nat.le_refl]
  | succ m ih =>
    intro k w7 w8 hk
    obtain ⟨o1, o2⟩ := hok.2.1 k (by omega)
    obtain ⟨egf, egt⟩ := hv k (by omega)
    have hF2 := okF_lt o1
    have hT2 := okT_lt o2
    have hst := lbN_s (F := F) (T := T) (a := sD x) (c := sD y) (lv := lv) (k := k)
    have nx := fun w7 w8 => ih (k + 1) w7 w8 (by omega)
    -- one has broken already
    have old : ∀ v7 v8 : Int32, lv < lbN F T (sD x) (sD y) k → mz_X G mk_P 11 false b_Model_breaks 9 (some .boolean) (r_Model_breaks 0 0) (fun v n' f' => v = some (.int (mk_b (lv < lbN F T (sD x) (sD y) (W b)))) ∧ n' = n ∧ f' = f) (fun _ _ _ => False) 67 [some (.ref 158), some (.int (nI b)), some (.int (nI lv)), some (.int (nI x)), some (.int (nI y)), some (.int (mk_b (lv < lbN F T (sD x) (sD y) k))), some (.int (nI (40 * b + k))), some (.int v7), w8] [.int v8] 0 0 n f := by
      intro v7 v8 h0
      rw [mk_b_t (hst.mpr (Or.inl h0))] at nx
      refine mz_go [9] 30 ?_
      simp only [mz_run, ev_0, ev_1, ev_2, ev_3, ev_4, ev_5, ev_6, ev_7, ev_8, ev_9, ev_10, ev_11, ev_12, ev_13, ev_14, ev_15, ev_16, ev_17, ev_18, ev_19, ev_20, ev_21, ev_22, ev_23, ev_24, ev_25, ev_26, ev_27, ev_28, ev_29, ev_30, ev_31, ev_32, ev_33, ev_34, ev_35, ev_36, ev_37, ev_38, ev_39, ev_40, ev_41, ev_42, ev_43, ev_44, ev_45, ev_46, ev_47, ev_48, ev_49, ev_50, ev_51, ev_52, ev_53, ev_54, ev_55, ev_56, ev_57, ev_58, ev_59, ev_60, ev_61, ev_62, ev_63, ev_64, ev_65, ev_66, ev_67, ev_68, ev_69, ev_70, ev_71, ev_72, ev_73, ev_74, ev_75, ev_76, ev_77, ev_78, ev_79, ev_80, ev_81, ev_82, ev_83, mk_lit, mk_fin, mk_cat, mk_fit, mk_nar, mk_fld, mk_cls, mk_ty, mk_isr, List.mem_cons, List.not_mem_nil, or_false, or_true, false_or, true_or, Nat.reduceEqDiff, Nat.reduceAdd, Nat.reduceSub, Nat.reduceLT, Nat.reduceLeDiff, reduceIte, if_true, if_false, List.getElem?_cons_zero, List.getElem?_cons_succ, List.set_cons_zero, List.set_cons_succ, List.length_cons, List.length_nil, mz_s1, mz_s2, mz_cl, true_and, and_true, false_and, and_false, List.append_nil, mk_b0, mk_b1, mk_b2, mk_bn, Value.int.injEq, Option.toList_some, Option.toList_none, List.cons_append, List.nil_append, Classical.not_not, Option.some.injEq, reduceCtorEq, ne_eq, not_true_eq_false, not_false_eq_true, false_implies, true_implies, d_Model_breaks, j_Model_breaks, nF_11, eq_true h0, nI_add]
      exact nx _ _
    have key0 : ∀ v7 : Int32, ¬ (96 + lv ≤ T k ∧ T k < 99 ∧ F k < 16) → mz_X G mk_P 11 false b_Model_breaks 9 (some .boolean) (r_Model_breaks 0 0) (fun v n' f' => v = some (.int (mk_b (lv < lbN F T (sD x) (sD y) (W b)))) ∧ n' = n ∧ f' = f) (fun _ _ _ => False) 67 [some (.ref 158), some (.int (nI b)), some (.int (nI lv)), some (.int (nI x)), some (.int (nI y)), some (.int (mk_b (lv < lbN F T (sD x) (sD y) k))), some (.int (nI (40 * b + k))), some (.int v7), w8] [.int (nI 0)] 0 0 n f := by
      intro v7 hno
      by_cases h0 : lv < lbN F T (sD x) (sD y) k
      · exact old _ _ h0
      · rw [mk_b_f (fun z => (hst.mp z).elim h0 (fun q => hno q.1))] at nx
        refine mz_go [9] 30 ?_
        simp only [mz_run, ev_0, ev_1, ev_2, ev_3, ev_4, ev_5, ev_6, ev_7, ev_8, ev_9, ev_10, ev_11, ev_12, ev_13, ev_14, ev_15, ev_16, ev_17, ev_18, ev_19, ev_20, ev_21, ev_22, ev_23, ev_24, ev_25, ev_26, ev_27, ev_28, ev_29, ev_30, ev_31, ev_32, ev_33, ev_34, ev_35, ev_36, ev_37, ev_38, ev_39, ev_40, ev_41, ev_42, ev_43, ev_44, ev_45, ev_46, ev_47, ev_48, ev_49, ev_50, ev_51, ev_52, ev_53, ev_54, ev_55, ev_56, ev_57, ev_58, ev_59, ev_60, ev_61, ev_62, ev_63, ev_64, ev_65, ev_66, ev_67, ev_68, ev_69, ev_70, ev_71, ev_72, ev_73, ev_74, ev_75, ev_76, ev_77, ev_78, ev_79, ev_80, ev_81, ev_82, ev_83, mk_lit, mk_fin, mk_cat, mk_fit, mk_nar, mk_fld, mk_cls, mk_ty, mk_isr, List.mem_cons, List.not_mem_nil, or_false, or_true, false_or, true_or, Nat.reduceEqDiff, Nat.reduceAdd, Nat.reduceSub, Nat.reduceLT, Nat.reduceLeDiff, reduceIte, if_true, if_false, List.getElem?_cons_zero, List.getElem?_cons_succ, List.set_cons_zero, List.set_cons_succ, List.length_cons, List.length_nil, mz_s1, mz_s2, mz_cl, true_and, and_true, false_and, and_false, List.append_nil, mk_b0, mk_b1, mk_b2, mk_bn, Value.int.injEq, Option.toList_some, Option.toList_none, List.cons_append, List.nil_append, Classical.not_not, Option.some.injEq, reduceCtorEq, ne_eq, not_true_eq_false, not_false_eq_true, false_implies, true_implies, d_Model_breaks, j_Model_breaks, nF_11, eq_false h0, z0, nI_add]
        exact nx _ _
    have key1 : ∀ v7 : Int32, (96 + lv ≤ T k ∧ T k < 99 ∧ F k < 16) → mz_X G mk_P 11 false b_Model_breaks 9 (some .boolean) (r_Model_breaks 0 0) (fun v n' f' => v = some (.int (mk_b (lv < lbN F T (sD x) (sD y) (W b)))) ∧ n' = n ∧ f' = f) (fun _ _ _ => False) 67 [some (.ref 158), some (.int (nI b)), some (.int (nI lv)), some (.int (nI x)), some (.int (nI y)), some (.int (mk_b (lv < lbN F T (sD x) (sD y) k))), some (.int (nI (40 * b + k))), some (.int v7), w8] [.int (nI 1)] 0 0 n f := by
      intro v7 hc
      by_cases h0 : lv < lbN F T (sD x) (sD y) k
      · exact old _ _ h0
      · have h16 := hc.2.2
        have s1 := sg_lt (MP_sg h hx h16)
        have s2 := sg_lt (MP_sg h hy h16)
        refine mz_go [97] 30 ?_
        simp only [mz_run, ev_0, ev_1, ev_2, ev_3, ev_4, ev_5, ev_6, ev_7, ev_8, ev_9, ev_10, ev_11, ev_12, ev_13, ev_14, ev_15, ev_16, ev_17, ev_18, ev_19, ev_20, ev_21, ev_22, ev_23, ev_24, ev_25, ev_26, ev_27, ev_28, ev_29, ev_30, ev_31, ev_32, ev_33, ev_34, ev_35, ev_36, ev_37, ev_38, ev_39, ev_40, ev_41, ev_42, ev_43, ev_44, ev_45, ev_46, ev_47, ev_48, ev_49, ev_50, ev_51, ev_52, ev_53, ev_54, ev_55, ev_56, ev_57, ev_58, ev_59, ev_60, ev_61, ev_62, ev_63, ev_64, ev_65, ev_66, ev_67, ev_68, ev_69, ev_70, ev_71, ev_72, ev_73, ev_74, ev_75, ev_76, ev_77, ev_78, ev_79, ev_80, ev_81, ev_82, ev_83, mk_lit, mk_fin, mk_cat, mk_fit, mk_nar, mk_fld, mk_cls, mk_ty, mk_isr, List.mem_cons, List.not_mem_nil, or_false, or_true, false_or, true_or, Nat.reduceEqDiff, Nat.reduceAdd, Nat.reduceSub, Nat.reduceLT, Nat.reduceLeDiff, reduceIte, if_true, if_false, List.getElem?_cons_zero, List.getElem?_cons_succ, List.set_cons_zero, List.set_cons_succ, List.length_cons, List.length_nil, mz_s1, mz_s2, mz_cl, true_and, and_true, false_and, and_false, List.append_nil, mk_b0, mk_b1, mk_b2, mk_bn, Value.int.injEq, Option.toList_some, Option.toList_none, List.cons_append, List.nil_append, Classical.not_not, Option.some.injEq, reduceCtorEq, ne_eq, not_true_eq_false, not_false_eq_true, false_implies, true_implies, d_Model_breaks, j_Model_breaks, nF_11, eq_false h0, eq_false z1, e158, e164, mo, vp_in_nI (show 40 * b + k < 160 by omega) (show 160 < 2 ^ 31 by decide), nI_clamp (show 40 * b + k < 2 ^ 31 by omega), egf]
        refine mz_callV (by simp only [d_Model_breaks, Nat.reduceAdd]) g_11_91 rfl (fun _ _ h => h) (c_Model_atX G n f h hx h16) e158 rfl rfl (by decide) (Nat.le_of_ble_eq_true rfl) rfl ?_; intro v_ n_ f_ h_; obtain ⟨rfl, hn_, hf_⟩ := h_; replace hn_ := hn_.symm; replace hf_ := hf_.symm; subst hn_; subst hf_
        refine mz_go [119] 30 ?_
        simp only [mz_run, ev_0, ev_1, ev_2, ev_3, ev_4, ev_5, ev_6, ev_7, ev_8, ev_9, ev_10, ev_11, ev_12, ev_13, ev_14, ev_15, ev_16, ev_17, ev_18, ev_19, ev_20, ev_21, ev_22, ev_23, ev_24, ev_25, ev_26, ev_27, ev_28, ev_29, ev_30, ev_31, ev_32, ev_33, ev_34, ev_35, ev_36, ev_37, ev_38, ev_39, ev_40, ev_41, ev_42, ev_43, ev_44, ev_45, ev_46, ev_47, ev_48, ev_49, ev_50, ev_51, ev_52, ev_53, ev_54, ev_55, ev_56, ev_57, ev_58, ev_59, ev_60, ev_61, ev_62, ev_63, ev_64, ev_65, ev_66, ev_67, ev_68, ev_69, ev_70, ev_71, ev_72, ev_73, ev_74, ev_75, ev_76, ev_77, ev_78, ev_79, ev_80, ev_81, ev_82, ev_83, mk_lit, mk_fin, mk_cat, mk_fit, mk_nar, mk_fld, mk_cls, mk_ty, mk_isr, List.mem_cons, List.not_mem_nil, or_false, or_true, false_or, true_or, Nat.reduceEqDiff, Nat.reduceAdd, Nat.reduceSub, Nat.reduceLT, Nat.reduceLeDiff, reduceIte, if_true, if_false, List.getElem?_cons_zero, List.getElem?_cons_succ, List.set_cons_zero, List.set_cons_succ, List.length_cons, List.length_nil, mz_s1, mz_s2, mz_cl, true_and, and_true, false_and, and_false, List.append_nil, mk_b0, mk_b1, mk_b2, mk_bn, Value.int.injEq, Option.toList_some, Option.toList_none, List.cons_append, List.nil_append, Classical.not_not, Option.some.injEq, reduceCtorEq, ne_eq, not_true_eq_false, not_false_eq_true, false_implies, true_implies, d_Model_breaks, j_Model_breaks, nF_11, eq_false z1, e158, e164, mo, vp_in_nI (show 40 * b + k < 160 by omega) (show 160 < 2 ^ 31 by decide), nI_clamp (show 40 * b + k < 2 ^ 31 by omega), egf]
        refine mz_callV (by simp only [d_Model_breaks, Nat.reduceAdd]) g_11_91 rfl (fun _ _ h => h) (c_Model_atX G n f h hy h16) e158 rfl rfl (by decide) (Nat.le_of_ble_eq_true rfl) rfl ?_; intro v_ n_ f_ h_; obtain ⟨rfl, hn_, hf_⟩ := h_; replace hn_ := hn_.symm; replace hf_ := hf_.symm; subst hn_; subst hf_
        by_cases hd : sD x (F k) = sD y (F k)
        · rw [mk_b_f (fun z => (hst.mp z).elim h0 (fun q => q.2 hd))] at nx
          refine mz_go [9] 30 ?_
          simp only [mz_run, ev_0, ev_1, ev_2, ev_3, ev_4, ev_5, ev_6, ev_7, ev_8, ev_9, ev_10, ev_11, ev_12, ev_13, ev_14, ev_15, ev_16, ev_17, ev_18, ev_19, ev_20, ev_21, ev_22, ev_23, ev_24, ev_25, ev_26, ev_27, ev_28, ev_29, ev_30, ev_31, ev_32, ev_33, ev_34, ev_35, ev_36, ev_37, ev_38, ev_39, ev_40, ev_41, ev_42, ev_43, ev_44, ev_45, ev_46, ev_47, ev_48, ev_49, ev_50, ev_51, ev_52, ev_53, ev_54, ev_55, ev_56, ev_57, ev_58, ev_59, ev_60, ev_61, ev_62, ev_63, ev_64, ev_65, ev_66, ev_67, ev_68, ev_69, ev_70, ev_71, ev_72, ev_73, ev_74, ev_75, ev_76, ev_77, ev_78, ev_79, ev_80, ev_81, ev_82, ev_83, mk_lit, mk_fin, mk_cat, mk_fit, mk_nar, mk_fld, mk_cls, mk_ty, mk_isr, List.mem_cons, List.not_mem_nil, or_false, or_true, false_or, true_or, Nat.reduceEqDiff, Nat.reduceAdd, Nat.reduceSub, Nat.reduceLT, Nat.reduceLeDiff, reduceIte, if_true, if_false, List.getElem?_cons_zero, List.getElem?_cons_succ, List.set_cons_zero, List.set_cons_succ, List.length_cons, List.length_nil, mz_s1, mz_s2, mz_cl, true_and, and_true, false_and, and_false, List.append_nil, mk_b0, mk_b1, mk_b2, mk_bn, Value.int.injEq, Option.toList_some, Option.toList_none, List.cons_append, List.nil_append, Classical.not_not, Option.some.injEq, reduceCtorEq, ne_eq, not_true_eq_false, not_false_eq_true, false_implies, true_implies, d_Model_breaks, j_Model_breaks, nF_11, hd, nI_add]
          exact nx _ _
        · rw [mk_b_t (hst.mpr (Or.inr ⟨hc, hd⟩))] at nx
          have hd' : ¬ nI (sD x (F k)) = nI (sD y (F k)) := fun q => hd ((nI_eq (by omega) (by omega)).mp q)
          refine mz_go [9] 30 ?_
          simp only [mz_run, ev_0, ev_1, ev_2, ev_3, ev_4, ev_5, ev_6, ev_7, ev_8, ev_9, ev_10, ev_11, ev_12, ev_13, ev_14, ev_15, ev_16, ev_17, ev_18, ev_19, ev_20, ev_21, ev_22, ev_23, ev_24, ev_25, ev_26, ev_27, ev_28, ev_29, ev_30, ev_31, ev_32, ev_33, ev_34, ev_35, ev_36, ev_37, ev_38, ev_39, ev_40, ev_41, ev_42, ev_43, ev_44, ev_45, ev_46, ev_47, ev_48, ev_49, ev_50, ev_51, ev_52, ev_53, ev_54, ev_55, ev_56, ev_57, ev_58, ev_59, ev_60, ev_61, ev_62, ev_63, ev_64, ev_65, ev_66, ev_67, ev_68, ev_69, ev_70, ev_71, ev_72, ev_73, ev_74, ev_75, ev_76, ev_77, ev_78, ev_79, ev_80, ev_81, ev_82, ev_83, mk_lit, mk_fin, mk_cat, mk_fit, mk_nar, mk_fld, mk_cls, mk_ty, mk_isr, List.mem_cons, List.not_mem_nil, or_false, or_true, false_or, true_or, Nat.reduceEqDiff, Nat.reduceAdd, Nat.reduceSub, Nat.reduceLT, Nat.reduceLeDiff, reduceIte, if_true, if_false, List.getElem?_cons_zero, List.getElem?_cons_succ, List.set_cons_zero, List.set_cons_succ, List.length_cons, List.length_nil, mz_s1, mz_s2, mz_cl, true_and, and_true, false_and, and_false, List.append_nil, mk_b0, mk_b1, mk_b2, mk_bn, Value.int.injEq, Option.toList_some, Option.toList_none, List.cons_append, List.nil_append, Classical.not_not, Option.some.injEq, reduceCtorEq, ne_eq, not_true_eq_false, not_false_eq_true, false_implies, true_implies, d_Model_breaks, j_Model_breaks, nF_11, eq_false hd', nI_add]
          exact nx _ _
    by_cases c1 : T k < 96 + lv
    · refine mz_go [67] 40 ?_
      simp only [mz_run, ev_0, ev_1, ev_2, ev_3, ev_4, ev_5, ev_6, ev_7, ev_8, ev_9, ev_10, ev_11, ev_12, ev_13, ev_14, ev_15, ev_16, ev_17, ev_18, ev_19, ev_20, ev_21, ev_22, ev_23, ev_24, ev_25, ev_26, ev_27, ev_28, ev_29, ev_30, ev_31, ev_32, ev_33, ev_34, ev_35, ev_36, ev_37, ev_38, ev_39, ev_40, ev_41, ev_42, ev_43, ev_44, ev_45, ev_46, ev_47, ev_48, ev_49, ev_50, ev_51, ev_52, ev_53, ev_54, ev_55, ev_56, ev_57, ev_58, ev_59, ev_60, ev_61, ev_62, ev_63, ev_64, ev_65, ev_66, ev_67, ev_68, ev_69, ev_70, ev_71, ev_72, ev_73, ev_74, ev_75, ev_76, ev_77, ev_78, ev_79, ev_80, ev_81, ev_82, ev_83, mk_lit, mk_fin, mk_cat, mk_fit, mk_nar, mk_fld, mk_cls, mk_ty, mk_isr, List.mem_cons, List.not_mem_nil, or_false, or_true, false_or, true_or, Nat.reduceEqDiff, Nat.reduceAdd, Nat.reduceSub, Nat.reduceLT, Nat.reduceLeDiff, reduceIte, if_true, if_false, List.getElem?_cons_zero, List.getElem?_cons_succ, List.set_cons_zero, List.set_cons_succ, List.length_cons, List.length_nil, mz_s1, mz_s2, mz_cl, true_and, and_true, false_and, and_false, List.append_nil, mk_b0, mk_b1, mk_b2, mk_bn, Value.int.injEq, Option.toList_some, Option.toList_none, List.cons_append, List.nil_append, Classical.not_not, Option.some.injEq, reduceCtorEq, ne_eq, not_true_eq_false, not_false_eq_true, false_implies, true_implies, d_Model_breaks, j_Model_breaks, nF_11, e158, e165, e166, mo, pk_mul, nI_add, vp_in_nI (show b < 4 by omega) (show 4 < 2 ^ 31 by decide), nI_clamp (show b < 2 ^ 31 by omega), nI_leI (show 40 * b + W b < 2 ^ 31 by omega) (show 40 * b + k < 2 ^ 31 by omega), show ¬ 40 * b + W b ≤ 40 * b + k by omega, vp_in_nI (show 40 * b + k < 160 by omega) (show 160 < 2 ^ 31 by decide), nI_clamp (show 40 * b + k < 2 ^ 31 by omega), egt, nI_ltI (show T k < 2 ^ 31 by omega) (show 96 + lv < 2 ^ 31 by omega), eq_true c1]
      exact key0 _ (by omega)
    · by_cases c2 : 99 ≤ T k
      · refine mz_go [67] 40 ?_
        simp only [mz_run, ev_0, ev_1, ev_2, ev_3, ev_4, ev_5, ev_6, ev_7, ev_8, ev_9, ev_10, ev_11, ev_12, ev_13, ev_14, ev_15, ev_16, ev_17, ev_18, ev_19, ev_20, ev_21, ev_22, ev_23, ev_24, ev_25, ev_26, ev_27, ev_28, ev_29, ev_30, ev_31, ev_32, ev_33, ev_34, ev_35, ev_36, ev_37, ev_38, ev_39, ev_40, ev_41, ev_42, ev_43, ev_44, ev_45, ev_46, ev_47, ev_48, ev_49, ev_50, ev_51, ev_52, ev_53, ev_54, ev_55, ev_56, ev_57, ev_58, ev_59, ev_60, ev_61, ev_62, ev_63, ev_64, ev_65, ev_66, ev_67, ev_68, ev_69, ev_70, ev_71, ev_72, ev_73, ev_74, ev_75, ev_76, ev_77, ev_78, ev_79, ev_80, ev_81, ev_82, ev_83, mk_lit, mk_fin, mk_cat, mk_fit, mk_nar, mk_fld, mk_cls, mk_ty, mk_isr, List.mem_cons, List.not_mem_nil, or_false, or_true, false_or, true_or, Nat.reduceEqDiff, Nat.reduceAdd, Nat.reduceSub, Nat.reduceLT, Nat.reduceLeDiff, reduceIte, if_true, if_false, List.getElem?_cons_zero, List.getElem?_cons_succ, List.set_cons_zero, List.set_cons_succ, List.length_cons, List.length_nil, mz_s1, mz_s2, mz_cl, true_and, and_true, false_and, and_false, List.append_nil, mk_b0, mk_b1, mk_b2, mk_bn, Value.int.injEq, Option.toList_some, Option.toList_none, List.cons_append, List.nil_append, Classical.not_not, Option.some.injEq, reduceCtorEq, ne_eq, not_true_eq_false, not_false_eq_true, false_implies, true_implies, d_Model_breaks, j_Model_breaks, nF_11, e158, e165, e166, mo, pk_mul, nI_add, vp_in_nI (show b < 4 by omega) (show 4 < 2 ^ 31 by decide), nI_clamp (show b < 2 ^ 31 by omega), nI_leI (show 40 * b + W b < 2 ^ 31 by omega) (show 40 * b + k < 2 ^ 31 by omega), show ¬ 40 * b + W b ≤ 40 * b + k by omega, vp_in_nI (show 40 * b + k < 160 by omega) (show 160 < 2 ^ 31 by decide), nI_clamp (show 40 * b + k < 2 ^ 31 by omega), egt, nI_ltI (show T k < 2 ^ 31 by omega) (show 96 + lv < 2 ^ 31 by omega), eq_false c1, nI_leI (show 99 < 2 ^ 31 by omega) (show T k < 2 ^ 31 by omega), eq_true c2]
        exact key0 _ (by omega)
      · by_cases c3 : 16 ≤ F k
        · refine mz_go [67] 40 ?_
          simp only [mz_run, ev_0, ev_1, ev_2, ev_3, ev_4, ev_5, ev_6, ev_7, ev_8, ev_9, ev_10, ev_11, ev_12, ev_13, ev_14, ev_15, ev_16, ev_17, ev_18, ev_19, ev_20, ev_21, ev_22, ev_23, ev_24, ev_25, ev_26, ev_27, ev_28, ev_29, ev_30, ev_31, ev_32, ev_33, ev_34, ev_35, ev_36, ev_37, ev_38, ev_39, ev_40, ev_41, ev_42, ev_43, ev_44, ev_45, ev_46, ev_47, ev_48, ev_49, ev_50, ev_51, ev_52, ev_53, ev_54, ev_55, ev_56, ev_57, ev_58, ev_59, ev_60, ev_61, ev_62, ev_63, ev_64, ev_65, ev_66, ev_67, ev_68, ev_69, ev_70, ev_71, ev_72, ev_73, ev_74, ev_75, ev_76, ev_77, ev_78, ev_79, ev_80, ev_81, ev_82, ev_83, mk_lit, mk_fin, mk_cat, mk_fit, mk_nar, mk_fld, mk_cls, mk_ty, mk_isr, List.mem_cons, List.not_mem_nil, or_false, or_true, false_or, true_or, Nat.reduceEqDiff, Nat.reduceAdd, Nat.reduceSub, Nat.reduceLT, Nat.reduceLeDiff, reduceIte, if_true, if_false, List.getElem?_cons_zero, List.getElem?_cons_succ, List.set_cons_zero, List.set_cons_succ, List.length_cons, List.length_nil, mz_s1, mz_s2, mz_cl, true_and, and_true, false_and, and_false, List.append_nil, mk_b0, mk_b1, mk_b2, mk_bn, Value.int.injEq, Option.toList_some, Option.toList_none, List.cons_append, List.nil_append, Classical.not_not, Option.some.injEq, reduceCtorEq, ne_eq, not_true_eq_false, not_false_eq_true, false_implies, true_implies, d_Model_breaks, j_Model_breaks, nF_11, e158, e164, e165, e166, mo, pk_mul, nI_add, vp_in_nI (show b < 4 by omega) (show 4 < 2 ^ 31 by decide), nI_clamp (show b < 2 ^ 31 by omega), nI_leI (show 40 * b + W b < 2 ^ 31 by omega) (show 40 * b + k < 2 ^ 31 by omega), show ¬ 40 * b + W b ≤ 40 * b + k by omega, vp_in_nI (show 40 * b + k < 160 by omega) (show 160 < 2 ^ 31 by decide), nI_clamp (show 40 * b + k < 2 ^ 31 by omega), egt, egf, nI_ltI (show T k < 2 ^ 31 by omega) (show 96 + lv < 2 ^ 31 by omega), eq_false c1, nI_leI (show 99 < 2 ^ 31 by omega) (show T k < 2 ^ 31 by omega), eq_false c2, nI_leI (show 16 < 2 ^ 31 by omega) (show F k < 2 ^ 31 by omega), eq_true c3]
          exact key0 _ (by omega)
        · refine mz_go [67] 40 ?_
          simp only [mz_run, ev_0, ev_1, ev_2, ev_3, ev_4, ev_5, ev_6, ev_7, ev_8, ev_9, ev_10, ev_11, ev_12, ev_13, ev_14, ev_15, ev_16, ev_17, ev_18, ev_19, ev_20, ev_21, ev_22, ev_23, ev_24, ev_25, ev_26, ev_27, ev_28, ev_29, ev_30, ev_31, ev_32, ev_33, ev_34, ev_35, ev_36, ev_37, ev_38, ev_39, ev_40, ev_41, ev_42, ev_43, ev_44, ev_45, ev_46, ev_47, ev_48, ev_49, ev_50, ev_51, ev_52, ev_53, ev_54, ev_55, ev_56, ev_57, ev_58, ev_59, ev_60, ev_61, ev_62, ev_63, ev_64, ev_65, ev_66, ev_67, ev_68, ev_69, ev_70, ev_71, ev_72, ev_73, ev_74, ev_75, ev_76, ev_77, ev_78, ev_79, ev_80, ev_81, ev_82, ev_83, mk_lit, mk_fin, mk_cat, mk_fit, mk_nar, mk_fld, mk_cls, mk_ty, mk_isr, List.mem_cons, List.not_mem_nil, or_false, or_true, false_or, true_or, Nat.reduceEqDiff, Nat.reduceAdd, Nat.reduceSub, Nat.reduceLT, Nat.reduceLeDiff, reduceIte, if_true, if_false, List.getElem?_cons_zero, List.getElem?_cons_succ, List.set_cons_zero, List.set_cons_succ, List.length_cons, List.length_nil, mz_s1, mz_s2, mz_cl, true_and, and_true, false_and, and_false, List.append_nil, mk_b0, mk_b1, mk_b2, mk_bn, Value.int.injEq, Option.toList_some, Option.toList_none, List.cons_append, List.nil_append, Classical.not_not, Option.some.injEq, reduceCtorEq, ne_eq, not_true_eq_false, not_false_eq_true, false_implies, true_implies, d_Model_breaks, j_Model_breaks, nF_11, e158, e164, e165, e166, mo, pk_mul, nI_add, vp_in_nI (show b < 4 by omega) (show 4 < 2 ^ 31 by decide), nI_clamp (show b < 2 ^ 31 by omega), nI_leI (show 40 * b + W b < 2 ^ 31 by omega) (show 40 * b + k < 2 ^ 31 by omega), show ¬ 40 * b + W b ≤ 40 * b + k by omega, vp_in_nI (show 40 * b + k < 160 by omega) (show 160 < 2 ^ 31 by decide), nI_clamp (show 40 * b + k < 2 ^ 31 by omega), egt, egf, nI_ltI (show T k < 2 ^ 31 by omega) (show 96 + lv < 2 ^ 31 by omega), eq_false c1, nI_leI (show 99 < 2 ^ 31 by omega) (show T k < 2 ^ 31 by omega), eq_false c2, nI_leI (show 16 < 2 ^ 31 by omega) (show F k < 2 ^ 31 by omega), eq_false c3]
          exact key1 _ (by omega)
theorem c_Model_breaks {cD sD : Nat → Nat → Nat} (G : mz_G) (n : Nat) (f : mz_H) {K ln b x y lv : Nat} {S : Nat → Nat} {B : bS} (h : MP f K ln S B.1 cD sD) (hM : MX f B) (hk : bOk B) (hb : b < 4) (hx : x < K) (hy : y < K) (hlv : lv < 3) : mz_Ct G mk_P y_Model_breaks b_Model_breaks 9 (some .boolean) (r_Model_breaks 0 0) [.ref 158, .int (nI b), .int (nI lv), .int (nI x), .int (nI y)] n f (fun v n' f' => v = some (.int (mk_b (lv < lbN (B.2.1 b) (B.2.2.1 b) (sD x) (sD y) (B.1 b)))) ∧ n' = n ∧ f' = f) := by
  obtain ⟨t, p, br, u, a, e158⟩ := h.1.1
  obtain ⟨m1, gf, gt, gl, m2, m3, m4, m5⟩ := hM
  refine mk_Ct 11 false [some (.ref 158), some (.int (nI b)), some (.int (nI lv)), some (.int (nI x)), some (.int (nI y)), none, none, none, none] (by decide) rfl (by decide) (Nat.le_of_ble_eq_true rfl) rfl ?_
  refine mz_go [9] 30 ?_
  simp only [mz_run, ev_0, ev_1, ev_2, ev_3, ev_4, ev_5, ev_6, ev_7, ev_8, ev_9, ev_10, ev_11, ev_12, ev_13, ev_14, ev_15, ev_16, ev_17, ev_18, ev_19, ev_20, ev_21, ev_22, ev_23, ev_24, ev_25, ev_26, ev_27, ev_28, ev_29, ev_30, ev_31, ev_32, ev_33, ev_34, ev_35, ev_36, ev_37, ev_38, ev_39, ev_40, ev_41, ev_42, ev_43, ev_44, ev_45, ev_46, ev_47, ev_48, ev_49, ev_50, ev_51, ev_52, ev_53, ev_54, ev_55, ev_56, ev_57, ev_58, ev_59, ev_60, ev_61, ev_62, ev_63, ev_64, ev_65, ev_66, ev_67, ev_68, ev_69, ev_70, ev_71, ev_72, ev_73, ev_74, ev_75, ev_76, ev_77, ev_78, ev_79, ev_80, ev_81, ev_82, ev_83, mk_lit, mk_fin, mk_cat, mk_fit, mk_nar, mk_fld, mk_cls, mk_ty, mk_isr, List.mem_cons, List.not_mem_nil, or_false, or_true, false_or, true_or, Nat.reduceEqDiff, Nat.reduceAdd, Nat.reduceSub, Nat.reduceLT, Nat.reduceLeDiff, reduceIte, if_true, if_false, List.getElem?_cons_zero, List.getElem?_cons_succ, List.set_cons_zero, List.set_cons_succ, List.length_cons, List.length_nil, mz_s1, mz_s2, mz_cl, true_and, and_true, false_and, and_false, List.append_nil, mk_b0, mk_b1, mk_b2, mk_bn, Value.int.injEq, Option.toList_some, Option.toList_none, List.cons_append, List.nil_append, Classical.not_not, Option.some.injEq, reduceCtorEq, ne_eq, not_true_eq_false, not_false_eq_true, false_implies, true_implies, d_Model_breaks, j_Model_breaks, nF_11, pk_mul]
  have w := l_Model_breaks G n f e158 h m2 m3 (hk b hb) (m5 b hb).1 hb hx hy hlv (B.1 b) 0 none none (by omega)
  rw [mk_b_f (show ¬ lv < lbN (B.2.1 b) (B.2.2.1 b) (sD x) (sD y) 0 from Nat.not_lt_zero _)] at w
  exact w
theorem dv6 {e : Nat} (h : e < 2 ^ 31) : nI e / nI 6 = nI (e / 6) := pk_div h (by decide) (by decide)
theorem rm6 {e : Nat} (h : e < 2 ^ 31) : nI e - nI (e / 6) * nI 6 = nI (e % 6) := by
  rw [pk_mul, pk_sub (by omega)]; congr 1; omega
/-- the counters -/
def MN (f : mz_H) (cn : Nat → Nat) : Prop := ∃ g, f 168 = aI 4 g ∧ ∀ c, c < 4 → g c = nI (cn c) ∧ cn c < 1000000
theorem MN_eq {f F : mz_H} {cn : Nat → Nat} (h : MN f cn) (e : F 168 = f 168) : MN F cn := by
  obtain ⟨g, h1, h2⟩ := h
  exact ⟨g, e.trans h1, h2⟩
theorem arS_m (z : Int32) : arS z (-1) = z := if_pos (by decide)
theorem rm6' {e : Nat} (h : e < 2 ^ 31) : nI e - nI (e / 6 * 6) = nI (e % 6) := by
  rw [pk_sub (by omega)]; congr 1; omega
set_option maxRecDepth 20000 in
theorem l_Model_totals (G : mz_G) (n : Nat) (f : mz_H) {K ln b lv ps : Nat} {t p br u a : Int32} {W F T L cn : Nat → Nat} {gf gt gl gc : Nat → Int32} (e158 : f 158 = mo t K ln p br u a) (e164 : f 164 = aB 160 gf) (e165 : f 165 = aB 160 gt) (e166 : f 166 = aI 4 (fun j => nI (W j))) (e167 : f 167 = aI 16 gl) (e168 : f 168 = aI 4 gc) (hok : BdOk (W b) F T L) (hv : ∀ k, k < W b → gf (40 * b + k) = nI (F k) ∧ gt (40 * b + k) = nI (T k)) (hl : ∀ c, c < 4 → gl (4 * b + c) = nI (L c)) (hc : ∀ c, c < 4 → gc c = nI (cn c) ∧ cn c < 1000000) (hb : b < 4) (hlv : lv < 2 ^ 31) (hps : ps < 24) :
    ∀ m k w6 w7 w8, k + m = W b → mz_X G mk_P 11 false b_Model_totals 9 (some .int) (r_Model_totals 0 0) (fun v n' f' => v = some (.int (arX F T L cn lv (32 + ps) (W b))) ∧ n' = n ∧ f' = f) (fun _ _ _ => False) 9 [some (.ref 158), some (.int (nI b)), some (.int (nI lv)), some (.int (nI ps)), some (.int (arX F T L cn lv (32 + ps) k)), some (.int (nI (40 * b + k))), w6, w7, w8] [] 0 0 n f := by
  have hW := hok.1
  have z1 : ¬ nI 1 = 0 := by decide
  have z0 : (nI 0 = 0) = True := eq_true rfl
  have z6 : ¬ nI 6 = 0 := by decide
  intro m
  induction m with
  | zero =>
    intro k w6 w7 w8 hk
    have : k = W b := by omega
    subst this
    refine mz_go [9] 30 ?_
    simp only [mz_run, ev_0, ev_1, ev_2, ev_3, ev_4, ev_5, ev_6, ev_7, ev_8, ev_9, ev_10, ev_11, ev_12, ev_13, ev_14, ev_15, ev_16, ev_17, ev_18, ev_19, ev_20, ev_21, ev_22, ev_23, ev_24, ev_25, ev_26, ev_27, ev_28, ev_29, ev_30, ev_31, ev_32, ev_33, ev_34, ev_35, ev_36, ev_37, ev_38, ev_39, ev_40, ev_41, ev_42, ev_43, ev_44, ev_45, ev_46, ev_47, ev_48, ev_49, ev_50, ev_51, ev_52, ev_53, ev_54, ev_55, ev_56, ev_57, ev_58, ev_59, ev_60, ev_61, ev_62, ev_63, ev_64, ev_65, ev_66, ev_67, ev_68, ev_69, ev_70, ev_71, ev_72, ev_73, ev_74, ev_75, ev_76, ev_77, ev_78, ev_79, ev_80, ev_81, ev_82, ev_83, mk_lit, mk_fin, mk_cat, mk_fit, mk_nar, mk_fld, mk_cls, mk_ty, mk_isr, List.mem_cons, List.not_mem_nil, or_false, or_true, false_or, true_or, Nat.reduceEqDiff, Nat.reduceAdd, Nat.reduceSub, Nat.reduceLT, Nat.reduceLeDiff, reduceIte, if_true, if_false, List.getElem?_cons_zero, List.getElem?_cons_succ, List.set_cons_zero, List.set_cons_succ, List.length_cons, List.length_nil, mz_s1, mz_s2, mz_cl, true_and, and_true, false_and, and_false, List.append_nil, mk_b0, mk_b1, mk_b2, mk_bn, Value.int.injEq, Option.toList_some, Option.toList_none, List.cons_append, List.nil_append, Classical.not_not, Option.some.injEq, reduceCtorEq, ne_eq, not_true_eq_false, not_false_eq_true, false_implies, true_implies, d_Model_totals, j_Model_totals, nF_11, e158, e166, mo, pk_mul, nI_add, vp_in_nI (show b < 4 by omega) (show 4 < 2 ^ 31 by decide), nI_clamp (show b < 2 ^ 31 by omega), nI_leI (show 40 * b + W b < 2 ^ 31 by omega) (show 40 * b + W b < 2 ^ 31 by omega), Nat.le_refl]
  | succ m ih =>
    intro k w6 w7 w8 hk
    obtain ⟨o1, o2⟩ := hok.2.1 k (by omega)
    obtain ⟨egf, egt⟩ := hv k (by omega)
    have hF2 := okF_lt o1
    have hT2 := okT_lt o2
    have eT : (nI (T k) = nI (32 + ps)) = (T k = 32 + ps) := propext (nI_eq (by omega) (by omega))
    have key : ∀ s v6 v7 : Int32, arX F T L cn lv (32 + ps) (k + 1) = arS (arX F T L cn lv (32 + ps) k) s → mz_X G mk_P 11 false b_Model_totals 9 (some .int) (r_Model_totals 0 0) (fun v n' f' => v = some (.int (arX F T L cn lv (32 + ps) (W b))) ∧ n' = n ∧ f' = f) (fun _ _ _ => False) 127 [some (.ref 158), some (.int (nI b)), some (.int (nI lv)), some (.int (nI ps)), some (.int (arX F T L cn lv (32 + ps) k)), some (.int (nI (40 * b + k))), some (.int v6), some (.int v7), w8] [.int s] 0 0 n f := by
      intro s v6 v7 hs
      have nx := fun w6 w7 w8 => ih (k + 1) w6 w7 w8 (by omega)
      rw [hs] at nx
      clear hs
      generalize arX F T L cn lv (32 + ps) k = sg' at nx ⊢
      unfold arS at nx
      by_cases h1 : s < 0
      · rw [if_pos h1] at nx
        refine mz_go [9] 30 ?_
        simp only [mz_run, ev_0, ev_1, ev_2, ev_3, ev_4, ev_5, ev_6, ev_7, ev_8, ev_9, ev_10, ev_11, ev_12, ev_13, ev_14, ev_15, ev_16, ev_17, ev_18, ev_19, ev_20, ev_21, ev_22, ev_23, ev_24, ev_25, ev_26, ev_27, ev_28, ev_29, ev_30, ev_31, ev_32, ev_33, ev_34, ev_35, ev_36, ev_37, ev_38, ev_39, ev_40, ev_41, ev_42, ev_43, ev_44, ev_45, ev_46, ev_47, ev_48, ev_49, ev_50, ev_51, ev_52, ev_53, ev_54, ev_55, ev_56, ev_57, ev_58, ev_59, ev_60, ev_61, ev_62, ev_63, ev_64, ev_65, ev_66, ev_67, ev_68, ev_69, ev_70, ev_71, ev_72, ev_73, ev_74, ev_75, ev_76, ev_77, ev_78, ev_79, ev_80, ev_81, ev_82, ev_83, mk_lit, mk_fin, mk_cat, mk_fit, mk_nar, mk_fld, mk_cls, mk_ty, mk_isr, List.mem_cons, List.not_mem_nil, or_false, or_true, false_or, true_or, Nat.reduceEqDiff, Nat.reduceAdd, Nat.reduceSub, Nat.reduceLT, Nat.reduceLeDiff, reduceIte, if_true, if_false, List.getElem?_cons_zero, List.getElem?_cons_succ, List.set_cons_zero, List.set_cons_succ, List.length_cons, List.length_nil, mz_s1, mz_s2, mz_cl, true_and, and_true, false_and, and_false, List.append_nil, mk_b0, mk_b1, mk_b2, mk_bn, Value.int.injEq, Option.toList_some, Option.toList_none, List.cons_append, List.nil_append, Classical.not_not, Option.some.injEq, reduceCtorEq, ne_eq, not_true_eq_false, not_false_eq_true, false_implies, true_implies, d_Model_totals, j_Model_totals, nF_11, nI_add, eq_true h1]
        exact nx _ _ _
      · rw [if_neg h1] at nx
        by_cases h2 : s = sg'
        · rw [if_pos h2] at nx
          refine mz_go [9] 30 ?_
          simp only [mz_run, ev_0, ev_1, ev_2, ev_3, ev_4, ev_5, ev_6, ev_7, ev_8, ev_9, ev_10, ev_11, ev_12, ev_13, ev_14, ev_15, ev_16, ev_17, ev_18, ev_19, ev_20, ev_21, ev_22, ev_23, ev_24, ev_25, ev_26, ev_27, ev_28, ev_29, ev_30, ev_31, ev_32, ev_33, ev_34, ev_35, ev_36, ev_37, ev_38, ev_39, ev_40, ev_41, ev_42, ev_43, ev_44, ev_45, ev_46, ev_47, ev_48, ev_49, ev_50, ev_51, ev_52, ev_53, ev_54, ev_55, ev_56, ev_57, ev_58, ev_59, ev_60, ev_61, ev_62, ev_63, ev_64, ev_65, ev_66, ev_67, ev_68, ev_69, ev_70, ev_71, ev_72, ev_73, ev_74, ev_75, ev_76, ev_77, ev_78, ev_79, ev_80, ev_81, ev_82, ev_83, mk_lit, mk_fin, mk_cat, mk_fit, mk_nar, mk_fld, mk_cls, mk_ty, mk_isr, List.mem_cons, List.not_mem_nil, or_false, or_true, false_or, true_or, Nat.reduceEqDiff, Nat.reduceAdd, Nat.reduceSub, Nat.reduceLT, Nat.reduceLeDiff, reduceIte, if_true, if_false, List.getElem?_cons_zero, List.getElem?_cons_succ, List.set_cons_zero, List.set_cons_succ, List.length_cons, List.length_nil, mz_s1, mz_s2, mz_cl, true_and, and_true, false_and, and_false, List.append_nil, mk_b0, mk_b1, mk_b2, mk_bn, Value.int.injEq, Option.toList_some, Option.toList_none, List.cons_append, List.nil_append, Classical.not_not, Option.some.injEq, reduceCtorEq, ne_eq, not_true_eq_false, not_false_eq_true, false_implies, true_implies, d_Model_totals, j_Model_totals, nF_11, nI_add, eq_false h1, eq_true h2]
          exact nx _ _ _
        · rw [if_neg h2] at nx
          by_cases h3 : sg' = -1
          · rw [if_pos h3] at nx
            refine mz_go [9] 30 ?_
            simp only [mz_run, ev_0, ev_1, ev_2, ev_3, ev_4, ev_5, ev_6, ev_7, ev_8, ev_9, ev_10, ev_11, ev_12, ev_13, ev_14, ev_15, ev_16, ev_17, ev_18, ev_19, ev_20, ev_21, ev_22, ev_23, ev_24, ev_25, ev_26, ev_27, ev_28, ev_29, ev_30, ev_31, ev_32, ev_33, ev_34, ev_35, ev_36, ev_37, ev_38, ev_39, ev_40, ev_41, ev_42, ev_43, ev_44, ev_45, ev_46, ev_47, ev_48, ev_49, ev_50, ev_51, ev_52, ev_53, ev_54, ev_55, ev_56, ev_57, ev_58, ev_59, ev_60, ev_61, ev_62, ev_63, ev_64, ev_65, ev_66, ev_67, ev_68, ev_69, ev_70, ev_71, ev_72, ev_73, ev_74, ev_75, ev_76, ev_77, ev_78, ev_79, ev_80, ev_81, ev_82, ev_83, mk_lit, mk_fin, mk_cat, mk_fit, mk_nar, mk_fld, mk_cls, mk_ty, mk_isr, List.mem_cons, List.not_mem_nil, or_false, or_true, false_or, true_or, Nat.reduceEqDiff, Nat.reduceAdd, Nat.reduceSub, Nat.reduceLT, Nat.reduceLeDiff, reduceIte, if_true, if_false, List.getElem?_cons_zero, List.getElem?_cons_succ, List.set_cons_zero, List.set_cons_succ, List.length_cons, List.length_nil, mz_s1, mz_s2, mz_cl, true_and, and_true, false_and, and_false, List.append_nil, mk_b0, mk_b1, mk_b2, mk_bn, Value.int.injEq, Option.toList_some, Option.toList_none, List.cons_append, List.nil_append, Classical.not_not, Option.some.injEq, reduceCtorEq, ne_eq, not_true_eq_false, not_false_eq_true, false_implies, true_implies, d_Model_totals, j_Model_totals, nF_11, nI_add, eq_false h1, eq_false h2, eq_true h3]
            exact nx _ _ _
          · rw [if_neg h3] at nx
            refine mz_go [9] 30 ?_
            simp only [mz_run, ev_0, ev_1, ev_2, ev_3, ev_4, ev_5, ev_6, ev_7, ev_8, ev_9, ev_10, ev_11, ev_12, ev_13, ev_14, ev_15, ev_16, ev_17, ev_18, ev_19, ev_20, ev_21, ev_22, ev_23, ev_24, ev_25, ev_26, ev_27, ev_28, ev_29, ev_30, ev_31, ev_32, ev_33, ev_34, ev_35, ev_36, ev_37, ev_38, ev_39, ev_40, ev_41, ev_42, ev_43, ev_44, ev_45, ev_46, ev_47, ev_48, ev_49, ev_50, ev_51, ev_52, ev_53, ev_54, ev_55, ev_56, ev_57, ev_58, ev_59, ev_60, ev_61, ev_62, ev_63, ev_64, ev_65, ev_66, ev_67, ev_68, ev_69, ev_70, ev_71, ev_72, ev_73, ev_74, ev_75, ev_76, ev_77, ev_78, ev_79, ev_80, ev_81, ev_82, ev_83, mk_lit, mk_fin, mk_cat, mk_fit, mk_nar, mk_fld, mk_cls, mk_ty, mk_isr, List.mem_cons, List.not_mem_nil, or_false, or_true, false_or, true_or, Nat.reduceEqDiff, Nat.reduceAdd, Nat.reduceSub, Nat.reduceLT, Nat.reduceLeDiff, reduceIte, if_true, if_false, List.getElem?_cons_zero, List.getElem?_cons_succ, List.set_cons_zero, List.set_cons_succ, List.length_cons, List.length_nil, mz_s1, mz_s2, mz_cl, true_and, and_true, false_and, and_false, List.append_nil, mk_b0, mk_b1, mk_b2, mk_bn, Value.int.injEq, Option.toList_some, Option.toList_none, List.cons_append, List.nil_append, Classical.not_not, Option.some.injEq, reduceCtorEq, ne_eq, not_true_eq_false, not_false_eq_true, false_implies, true_implies, d_Model_totals, j_Model_totals, nF_11, nI_add, eq_false h1, eq_false h2, eq_false h3]
            exact nx _ _ _
    have none' : ¬ (32 ≤ F k ∧ T k = 32 + ps ∧ L ((F k - 32) / 6) = lv) → arX F T L cn lv (32 + ps) (k + 1) = arS (arX F T L cn lv (32 + ps) k) (-1) := fun hno => by
      rw [arS_m]; exact if_neg hno
    by_cases h32 : 32 ≤ F k
    · obtain ⟨e, he⟩ : ∃ e, e = F k - 32 := ⟨_, rfl⟩
      have esub : nI (F k) - nI 32 = nI e := by rw [he]; exact pk_sub h32
      have he24 : e < 24 := by omega
      have ge0 : (0 : Int32) ≤ nI e := by
        show nI 0 ≤ nI e
        rw [nI_leI (by decide) (show e < 2 ^ 31 by omega)]; omega
      have lt0 : ¬ nI e < (0 : Int32) := by
        show ¬ nI e < nI 0
        rw [nI_ltI (show e < 2 ^ 31 by omega) (by decide)]; omega
      have eL := hl (e / 6) (by omega)
      have hL4 := hok.2.2 (e / 6) (by omega)
      have eC := hc (e / 6) (by omega)
      have eLv : (nI (L (e / 6)) = nI lv) = (L (e / 6) = lv) := propext (nI_eq (by omega) hlv)
      by_cases cT : T k = 32 + ps
      · by_cases cL : L (e / 6) = lv
        · have hs : arX F T L cn lv (32 + ps) (k + 1) = arS (arX F T L cn lv (32 + ps) k) (nI (whN (cn (e / 6)) (e % 6))) := by
            rw [he]; exact if_pos ⟨h32, cT, by rw [← he]; exact cL⟩
          refine mz_go [120] 80 ?_
          simp only [mz_run, ev_0, ev_1, ev_2, ev_3, ev_4, ev_5, ev_6, ev_7, ev_8, ev_9, ev_10, ev_11, ev_12, ev_13, ev_14, ev_15, ev_16, ev_17, ev_18, ev_19, ev_20, ev_21, ev_22, ev_23, ev_24, ev_25, ev_26, ev_27, ev_28, ev_29, ev_30, ev_31, ev_32, ev_33, ev_34, ev_35, ev_36, ev_37, ev_38, ev_39, ev_40, ev_41, ev_42, ev_43, ev_44, ev_45, ev_46, ev_47, ev_48, ev_49, ev_50, ev_51, ev_52, ev_53, ev_54, ev_55, ev_56, ev_57, ev_58, ev_59, ev_60, ev_61, ev_62, ev_63, ev_64, ev_65, ev_66, ev_67, ev_68, ev_69, ev_70, ev_71, ev_72, ev_73, ev_74, ev_75, ev_76, ev_77, ev_78, ev_79, ev_80, ev_81, ev_82, ev_83, mk_lit, mk_fin, mk_cat, mk_fit, mk_nar, mk_fld, mk_cls, mk_ty, mk_isr, List.mem_cons, List.not_mem_nil, or_false, or_true, false_or, true_or, Nat.reduceEqDiff, Nat.reduceAdd, Nat.reduceSub, Nat.reduceLT, Nat.reduceLeDiff, reduceIte, if_true, if_false, List.getElem?_cons_zero, List.getElem?_cons_succ, List.set_cons_zero, List.set_cons_succ, List.length_cons, List.length_nil, mz_s1, mz_s2, mz_cl, true_and, and_true, false_and, and_false, List.append_nil, mk_b0, mk_b1, mk_b2, mk_bn, Value.int.injEq, Option.toList_some, Option.toList_none, List.cons_append, List.nil_append, Classical.not_not, Option.some.injEq, reduceCtorEq, ne_eq, not_true_eq_false, not_false_eq_true, false_implies, true_implies, d_Model_totals, j_Model_totals, nF_11, e158, e164, e165, e166, e167, e168, mo, pk_mul, nI_add, vp_in_nI (show b < 4 by omega) (show 4 < 2 ^ 31 by decide), nI_clamp (show b < 2 ^ 31 by omega), nI_leI (show 40 * b + W b < 2 ^ 31 by omega) (show 40 * b + k < 2 ^ 31 by omega), show ¬ 40 * b + W b ≤ 40 * b + k by omega, vp_in_nI (show 40 * b + k < 160 by omega) (show 160 < 2 ^ 31 by decide), nI_clamp (show 40 * b + k < 2 ^ 31 by omega), egf, egt, esub, eT, eq_true cT, eq_false lt0, eq_true ge0, z6, dv6 (show e < 2 ^ 31 by omega), rm6' (show e < 2 ^ 31 by omega), vp_in_nI (show 4 * b + e / 6 < 16 by omega) (show 16 < 2 ^ 31 by decide), nI_clamp (show 4 * b + e / 6 < 2 ^ 31 by omega), eL, eLv, eq_true cL, eq_false z1, vp_in_nI (show e / 6 < 4 by omega) (show 4 < 2 ^ 31 by decide), nI_clamp (show e / 6 < 2 ^ 31 by omega), eC.1]
          refine mz_callV (by simp only [d_Model_totals, Nat.reduceAdd]) g_11_182 rfl (fun _ _ h => h) (c_Model_wheel G n f (w := e % 6) (v0 := cn (e / 6)) (by omega) (by omega)) e158 rfl rfl (by decide) (Nat.le_of_ble_eq_true rfl) rfl ?_; intro v_ n_ f_ h_; obtain ⟨rfl, hn_, hf_⟩ := h_; replace hn_ := hn_.symm; replace hf_ := hf_.symm; subst hn_; subst hf_
          refine mz_go [127] 30 ?_
          simp only [mz_run, ev_0, ev_1, ev_2, ev_3, ev_4, ev_5, ev_6, ev_7, ev_8, ev_9, ev_10, ev_11, ev_12, ev_13, ev_14, ev_15, ev_16, ev_17, ev_18, ev_19, ev_20, ev_21, ev_22, ev_23, ev_24, ev_25, ev_26, ev_27, ev_28, ev_29, ev_30, ev_31, ev_32, ev_33, ev_34, ev_35, ev_36, ev_37, ev_38, ev_39, ev_40, ev_41, ev_42, ev_43, ev_44, ev_45, ev_46, ev_47, ev_48, ev_49, ev_50, ev_51, ev_52, ev_53, ev_54, ev_55, ev_56, ev_57, ev_58, ev_59, ev_60, ev_61, ev_62, ev_63, ev_64, ev_65, ev_66, ev_67, ev_68, ev_69, ev_70, ev_71, ev_72, ev_73, ev_74, ev_75, ev_76, ev_77, ev_78, ev_79, ev_80, ev_81, ev_82, ev_83, mk_lit, mk_fin, mk_cat, mk_fit, mk_nar, mk_fld, mk_cls, mk_ty, mk_isr, List.mem_cons, List.not_mem_nil, or_false, or_true, false_or, true_or, Nat.reduceEqDiff, Nat.reduceAdd, Nat.reduceSub, Nat.reduceLT, Nat.reduceLeDiff, reduceIte, if_true, if_false, List.getElem?_cons_zero, List.getElem?_cons_succ, List.set_cons_zero, List.set_cons_succ, List.length_cons, List.length_nil, mz_s1, mz_s2, mz_cl, true_and, and_true, false_and, and_false, List.append_nil, mk_b0, mk_b1, mk_b2, mk_bn, Value.int.injEq, Option.toList_some, Option.toList_none, List.cons_append, List.nil_append, Classical.not_not, Option.some.injEq, reduceCtorEq, ne_eq, not_true_eq_false, not_false_eq_true, false_implies, true_implies, d_Model_totals, j_Model_totals, nF_11]
          exact key _ _ _ hs
        · refine mz_go [127] 80 ?_
          simp only [mz_run, ev_0, ev_1, ev_2, ev_3, ev_4, ev_5, ev_6, ev_7, ev_8, ev_9, ev_10, ev_11, ev_12, ev_13, ev_14, ev_15, ev_16, ev_17, ev_18, ev_19, ev_20, ev_21, ev_22, ev_23, ev_24, ev_25, ev_26, ev_27, ev_28, ev_29, ev_30, ev_31, ev_32, ev_33, ev_34, ev_35, ev_36, ev_37, ev_38, ev_39, ev_40, ev_41, ev_42, ev_43, ev_44, ev_45, ev_46, ev_47, ev_48, ev_49, ev_50, ev_51, ev_52, ev_53, ev_54, ev_55, ev_56, ev_57, ev_58, ev_59, ev_60, ev_61, ev_62, ev_63, ev_64, ev_65, ev_66, ev_67, ev_68, ev_69, ev_70, ev_71, ev_72, ev_73, ev_74, ev_75, ev_76, ev_77, ev_78, ev_79, ev_80, ev_81, ev_82, ev_83, mk_lit, mk_fin, mk_cat, mk_fit, mk_nar, mk_fld, mk_cls, mk_ty, mk_isr, List.mem_cons, List.not_mem_nil, or_false, or_true, false_or, true_or, Nat.reduceEqDiff, Nat.reduceAdd, Nat.reduceSub, Nat.reduceLT, Nat.reduceLeDiff, reduceIte, if_true, if_false, List.getElem?_cons_zero, List.getElem?_cons_succ, List.set_cons_zero, List.set_cons_succ, List.length_cons, List.length_nil, mz_s1, mz_s2, mz_cl, true_and, and_true, false_and, and_false, List.append_nil, mk_b0, mk_b1, mk_b2, mk_bn, Value.int.injEq, Option.toList_some, Option.toList_none, List.cons_append, List.nil_append, Classical.not_not, Option.some.injEq, reduceCtorEq, ne_eq, not_true_eq_false, not_false_eq_true, false_implies, true_implies, d_Model_totals, j_Model_totals, nF_11, e158, e164, e165, e166, e167, mo, pk_mul, nI_add, vp_in_nI (show b < 4 by omega) (show 4 < 2 ^ 31 by decide), nI_clamp (show b < 2 ^ 31 by omega), nI_leI (show 40 * b + W b < 2 ^ 31 by omega) (show 40 * b + k < 2 ^ 31 by omega), show ¬ 40 * b + W b ≤ 40 * b + k by omega, vp_in_nI (show 40 * b + k < 160 by omega) (show 160 < 2 ^ 31 by decide), nI_clamp (show 40 * b + k < 2 ^ 31 by omega), egf, egt, esub, eT, eq_true cT, eq_false lt0, eq_true ge0, z6, dv6 (show e < 2 ^ 31 by omega), vp_in_nI (show 4 * b + e / 6 < 16 by omega) (show 16 < 2 ^ 31 by decide), nI_clamp (show 4 * b + e / 6 < 2 ^ 31 by omega), eL, eLv, eq_false cL, z0]
          exact key _ _ _ (none' (fun q => cL (by rw [he]; exact q.2.2)))
      · refine mz_go [127] 80 ?_
        simp only [mz_run, ev_0, ev_1, ev_2, ev_3, ev_4, ev_5, ev_6, ev_7, ev_8, ev_9, ev_10, ev_11, ev_12, ev_13, ev_14, ev_15, ev_16, ev_17, ev_18, ev_19, ev_20, ev_21, ev_22, ev_23, ev_24, ev_25, ev_26, ev_27, ev_28, ev_29, ev_30, ev_31, ev_32, ev_33, ev_34, ev_35, ev_36, ev_37, ev_38, ev_39, ev_40, ev_41, ev_42, ev_43, ev_44, ev_45, ev_46, ev_47, ev_48, ev_49, ev_50, ev_51, ev_52, ev_53, ev_54, ev_55, ev_56, ev_57, ev_58, ev_59, ev_60, ev_61, ev_62, ev_63, ev_64, ev_65, ev_66, ev_67, ev_68, ev_69, ev_70, ev_71, ev_72, ev_73, ev_74, ev_75, ev_76, ev_77, ev_78, ev_79, ev_80, ev_81, ev_82, ev_83, mk_lit, mk_fin, mk_cat, mk_fit, mk_nar, mk_fld, mk_cls, mk_ty, mk_isr, List.mem_cons, List.not_mem_nil, or_false, or_true, false_or, true_or, Nat.reduceEqDiff, Nat.reduceAdd, Nat.reduceSub, Nat.reduceLT, Nat.reduceLeDiff, reduceIte, if_true, if_false, List.getElem?_cons_zero, List.getElem?_cons_succ, List.set_cons_zero, List.set_cons_succ, List.length_cons, List.length_nil, mz_s1, mz_s2, mz_cl, true_and, and_true, false_and, and_false, List.append_nil, mk_b0, mk_b1, mk_b2, mk_bn, Value.int.injEq, Option.toList_some, Option.toList_none, List.cons_append, List.nil_append, Classical.not_not, Option.some.injEq, reduceCtorEq, ne_eq, not_true_eq_false, not_false_eq_true, false_implies, true_implies, d_Model_totals, j_Model_totals, nF_11, e158, e164, e165, e166, mo, pk_mul, nI_add, vp_in_nI (show b < 4 by omega) (show 4 < 2 ^ 31 by decide), nI_clamp (show b < 2 ^ 31 by omega), nI_leI (show 40 * b + W b < 2 ^ 31 by omega) (show 40 * b + k < 2 ^ 31 by omega), show ¬ 40 * b + W b ≤ 40 * b + k by omega, vp_in_nI (show 40 * b + k < 160 by omega) (show 160 < 2 ^ 31 by decide), nI_clamp (show 40 * b + k < 2 ^ 31 by omega), egf, egt, esub, eT, eq_false cT, z0]
        exact key _ _ _ (none' (fun q => cT q.2.1))
    · have lt0 : nI (F k) - nI 32 < (0 : Int32) := lt32 (F k) (by omega)
      by_cases cT : T k = 32 + ps
      · refine mz_go [127] 80 ?_
        simp only [mz_run, ev_0, ev_1, ev_2, ev_3, ev_4, ev_5, ev_6, ev_7, ev_8, ev_9, ev_10, ev_11, ev_12, ev_13, ev_14, ev_15, ev_16, ev_17, ev_18, ev_19, ev_20, ev_21, ev_22, ev_23, ev_24, ev_25, ev_26, ev_27, ev_28, ev_29, ev_30, ev_31, ev_32, ev_33, ev_34, ev_35, ev_36, ev_37, ev_38, ev_39, ev_40, ev_41, ev_42, ev_43, ev_44, ev_45, ev_46, ev_47, ev_48, ev_49, ev_50, ev_51, ev_52, ev_53, ev_54, ev_55, ev_56, ev_57, ev_58, ev_59, ev_60, ev_61, ev_62, ev_63, ev_64, ev_65, ev_66, ev_67, ev_68, ev_69, ev_70, ev_71, ev_72, ev_73, ev_74, ev_75, ev_76, ev_77, ev_78, ev_79, ev_80, ev_81, ev_82, ev_83, mk_lit, mk_fin, mk_cat, mk_fit, mk_nar, mk_fld, mk_cls, mk_ty, mk_isr, List.mem_cons, List.not_mem_nil, or_false, or_true, false_or, true_or, Nat.reduceEqDiff, Nat.reduceAdd, Nat.reduceSub, Nat.reduceLT, Nat.reduceLeDiff, reduceIte, if_true, if_false, List.getElem?_cons_zero, List.getElem?_cons_succ, List.set_cons_zero, List.set_cons_succ, List.length_cons, List.length_nil, mz_s1, mz_s2, mz_cl, true_and, and_true, false_and, and_false, List.append_nil, mk_b0, mk_b1, mk_b2, mk_bn, Value.int.injEq, Option.toList_some, Option.toList_none, List.cons_append, List.nil_append, Classical.not_not, Option.some.injEq, reduceCtorEq, ne_eq, not_true_eq_false, not_false_eq_true, false_implies, true_implies, d_Model_totals, j_Model_totals, nF_11, e158, e164, e165, e166, mo, pk_mul, nI_add, vp_in_nI (show b < 4 by omega) (show 4 < 2 ^ 31 by decide), nI_clamp (show b < 2 ^ 31 by omega), nI_leI (show 40 * b + W b < 2 ^ 31 by omega) (show 40 * b + k < 2 ^ 31 by omega), show ¬ 40 * b + W b ≤ 40 * b + k by omega, vp_in_nI (show 40 * b + k < 160 by omega) (show 160 < 2 ^ 31 by decide), nI_clamp (show 40 * b + k < 2 ^ 31 by omega), egf, egt, eT, eq_true cT, eq_true lt0, z0]
        exact key _ _ _ (none' (fun q => h32 q.1))
      · refine mz_go [127] 80 ?_
        simp only [mz_run, ev_0, ev_1, ev_2, ev_3, ev_4, ev_5, ev_6, ev_7, ev_8, ev_9, ev_10, ev_11, ev_12, ev_13, ev_14, ev_15, ev_16, ev_17, ev_18, ev_19, ev_20, ev_21, ev_22, ev_23, ev_24, ev_25, ev_26, ev_27, ev_28, ev_29, ev_30, ev_31, ev_32, ev_33, ev_34, ev_35, ev_36, ev_37, ev_38, ev_39, ev_40, ev_41, ev_42, ev_43, ev_44, ev_45, ev_46, ev_47, ev_48, ev_49, ev_50, ev_51, ev_52, ev_53, ev_54, ev_55, ev_56, ev_57, ev_58, ev_59, ev_60, ev_61, ev_62, ev_63, ev_64, ev_65, ev_66, ev_67, ev_68, ev_69, ev_70, ev_71, ev_72, ev_73, ev_74, ev_75, ev_76, ev_77, ev_78, ev_79, ev_80, ev_81, ev_82, ev_83, mk_lit, mk_fin, mk_cat, mk_fit, mk_nar, mk_fld, mk_cls, mk_ty, mk_isr, List.mem_cons, List.not_mem_nil, or_false, or_true, false_or, true_or, Nat.reduceEqDiff, Nat.reduceAdd, Nat.reduceSub, Nat.reduceLT, Nat.reduceLeDiff, reduceIte, if_true, if_false, List.getElem?_cons_zero, List.getElem?_cons_succ, List.set_cons_zero, List.set_cons_succ, List.length_cons, List.length_nil, mz_s1, mz_s2, mz_cl, true_and, and_true, false_and, and_false, List.append_nil, mk_b0, mk_b1, mk_b2, mk_bn, Value.int.injEq, Option.toList_some, Option.toList_none, List.cons_append, List.nil_append, Classical.not_not, Option.some.injEq, reduceCtorEq, ne_eq, not_true_eq_false, not_false_eq_true, false_implies, true_implies, d_Model_totals, j_Model_totals, nF_11, e158, e164, e165, e166, mo, pk_mul, nI_add, vp_in_nI (show b < 4 by omega) (show 4 < 2 ^ 31 by decide), nI_clamp (show b < 2 ^ 31 by omega), nI_leI (show 40 * b + W b < 2 ^ 31 by omega) (show 40 * b + k < 2 ^ 31 by omega), show ¬ 40 * b + W b ≤ 40 * b + k by omega, vp_in_nI (show 40 * b + k < 160 by omega) (show 160 < 2 ^ 31 by decide), nI_clamp (show 40 * b + k < 2 ^ 31 by omega), egf, egt, eT, eq_false cT, z0]
        exact key _ _ _ (none' (fun q => h32 q.1))
theorem c_Model_totals {cD sD : Nat → Nat → Nat} (G : mz_G) (n : Nat) (f : mz_H) {K ln b lv ps : Nat} {S cn : Nat → Nat} {B : bS} (h : MP f K ln S B.1 cD sD) (hM : MX f B) (hk : bOk B) (hN : MN f cn) (hb : b < 4) (hlv : lv < 2 ^ 31) (hps : ps < 24) : mz_Ct G mk_P y_Model_totals b_Model_totals 9 (some .int) (r_Model_totals 0 0) [.ref 158, .int (nI b), .int (nI lv), .int (nI ps)] n f (fun v n' f' => v = some (.int (arX (B.2.1 b) (B.2.2.1 b) (B.2.2.2 b) cn lv (32 + ps) (B.1 b))) ∧ n' = n ∧ f' = f) := by
  obtain ⟨t, p, br, u, a, e158⟩ := h.1.1
  obtain ⟨m1, gf, gt, gl, m2, m3, m4, m5⟩ := hM
  obtain ⟨gc, e168, hc⟩ := hN
  refine mk_Ct 11 false [some (.ref 158), some (.int (nI b)), some (.int (nI lv)), some (.int (nI ps)), none, none, none, none, none] (by decide) rfl (by decide) (Nat.le_of_ble_eq_true rfl) rfl ?_
  refine mz_go [9] 30 ?_
  simp only [mz_run, ev_0, ev_1, ev_2, ev_3, ev_4, ev_5, ev_6, ev_7, ev_8, ev_9, ev_10, ev_11, ev_12, ev_13, ev_14, ev_15, ev_16, ev_17, ev_18, ev_19, ev_20, ev_21, ev_22, ev_23, ev_24, ev_25, ev_26, ev_27, ev_28, ev_29, ev_30, ev_31, ev_32, ev_33, ev_34, ev_35, ev_36, ev_37, ev_38, ev_39, ev_40, ev_41, ev_42, ev_43, ev_44, ev_45, ev_46, ev_47, ev_48, ev_49, ev_50, ev_51, ev_52, ev_53, ev_54, ev_55, ev_56, ev_57, ev_58, ev_59, ev_60, ev_61, ev_62, ev_63, ev_64, ev_65, ev_66, ev_67, ev_68, ev_69, ev_70, ev_71, ev_72, ev_73, ev_74, ev_75, ev_76, ev_77, ev_78, ev_79, ev_80, ev_81, ev_82, ev_83, mk_lit, mk_fin, mk_cat, mk_fit, mk_nar, mk_fld, mk_cls, mk_ty, mk_isr, List.mem_cons, List.not_mem_nil, or_false, or_true, false_or, true_or, Nat.reduceEqDiff, Nat.reduceAdd, Nat.reduceSub, Nat.reduceLT, Nat.reduceLeDiff, reduceIte, if_true, if_false, List.getElem?_cons_zero, List.getElem?_cons_succ, List.set_cons_zero, List.set_cons_succ, List.length_cons, List.length_nil, mz_s1, mz_s2, mz_cl, true_and, and_true, false_and, and_false, List.append_nil, mk_b0, mk_b1, mk_b2, mk_bn, Value.int.injEq, Option.toList_some, Option.toList_none, List.cons_append, List.nil_append, Classical.not_not, Option.some.injEq, reduceCtorEq, ne_eq, not_true_eq_false, not_false_eq_true, false_implies, true_implies, d_Model_totals, j_Model_totals, nF_11, pk_mul]
  exact l_Model_totals G n f e158 m2 m3 m1 m4 e168 (hk b hb) (m5 b hb).1 (m5 b hb).2 hc hb hlv hps (B.1 b) 0 none none none (by omega)
theorem l_Model_clashes {cD sD : Nat → Nat → Nat} (G : mz_G) (n : Nat) (f : mz_H) {K ln b lv : Nat} {t p br u a : Int32} {S cn : Nat → Nat} {B : bS} (e158 : f 158 = mo t K ln p br u a) (h : MP f K ln S B.1 cD sD) (hM : MX f B) (hk : bOk B) (hN : MN f cn) (hb : b < 4) (hlv : lv < 2 ^ 31) :
    ∀ m k, k + m = 24 → mz_X G mk_P 11 false b_Model_clashes 5 (some .boolean) (r_Model_clashes 0 0) (fun v n' f' => v = some (.int (mk_b (clX (B.2.1 b) (B.2.2.1 b) (B.2.2.2 b) cn lv (B.1 b) 24 = true))) ∧ n' = n ∧ f' = f) (fun _ _ _ => False) 5 [some (.ref 158), some (.int (nI b)), some (.int (nI lv)), some (.int (mk_b (clX (B.2.1 b) (B.2.2.1 b) (B.2.2.2 b) cn lv (B.1 b) k = true))), some (.int (nI k))] [] 0 0 n f := by
  intro m
  induction m with
  | zero =>
    intro k hk
    have : k = 24 := by omega
    subst this
    refine mz_go [5] 30 ?_
    simp only [mz_run, ev_0, ev_1, ev_2, ev_3, ev_4, ev_5, ev_6, ev_7, ev_8, ev_9, ev_10, ev_11, ev_12, ev_13, ev_14, ev_15, ev_16, ev_17, ev_18, ev_19, ev_20, ev_21, ev_22, ev_23, ev_24, ev_25, ev_26, ev_27, ev_28, ev_29, ev_30, ev_31, ev_32, ev_33, ev_34, ev_35, ev_36, ev_37, ev_38, ev_39, ev_40, ev_41, ev_42, ev_43, ev_44, ev_45, ev_46, ev_47, ev_48, ev_49, ev_50, ev_51, ev_52, ev_53, ev_54, ev_55, ev_56, ev_57, ev_58, ev_59, ev_60, ev_61, ev_62, ev_63, ev_64, ev_65, ev_66, ev_67, ev_68, ev_69, ev_70, ev_71, ev_72, ev_73, ev_74, ev_75, ev_76, ev_77, ev_78, ev_79, ev_80, ev_81, ev_82, ev_83, mk_lit, mk_fin, mk_cat, mk_fit, mk_nar, mk_fld, mk_cls, mk_ty, mk_isr, List.mem_cons, List.not_mem_nil, or_false, or_true, false_or, true_or, Nat.reduceEqDiff, Nat.reduceAdd, Nat.reduceSub, Nat.reduceLT, Nat.reduceLeDiff, reduceIte, if_true, if_false, List.getElem?_cons_zero, List.getElem?_cons_succ, List.set_cons_zero, List.set_cons_succ, List.length_cons, List.length_nil, mz_s1, mz_s2, mz_cl, true_and, and_true, false_and, and_false, List.append_nil, mk_b0, mk_b1, mk_b2, mk_bn, Value.int.injEq, Option.toList_some, Option.toList_none, List.cons_append, List.nil_append, Classical.not_not, Option.some.injEq, reduceCtorEq, ne_eq, not_true_eq_false, not_false_eq_true, false_implies, true_implies, d_Model_clashes, j_Model_clashes, nF_11, nI_leI (show 24 < 2 ^ 31 by omega) (show 24 < 2 ^ 31 by omega), Nat.le_refl]
  | succ m ih =>
    intro k hk2
    have nx := ih (k + 1) (by omega)
    cases hr : clX (B.2.1 b) (B.2.2.1 b) (B.2.2.2 b) cn lv (B.1 b) k with
    | false =>
      refine mz_go [21] 30 ?_
      simp only [mz_run, ev_0, ev_1, ev_2, ev_3, ev_4, ev_5, ev_6, ev_7, ev_8, ev_9, ev_10, ev_11, ev_12, ev_13, ev_14, ev_15, ev_16, ev_17, ev_18, ev_19, ev_20, ev_21, ev_22, ev_23, ev_24, ev_25, ev_26, ev_27, ev_28, ev_29, ev_30, ev_31, ev_32, ev_33, ev_34, ev_35, ev_36, ev_37, ev_38, ev_39, ev_40, ev_41, ev_42, ev_43, ev_44, ev_45, ev_46, ev_47, ev_48, ev_49, ev_50, ev_51, ev_52, ev_53, ev_54, ev_55, ev_56, ev_57, ev_58, ev_59, ev_60, ev_61, ev_62, ev_63, ev_64, ev_65, ev_66, ev_67, ev_68, ev_69, ev_70, ev_71, ev_72, ev_73, ev_74, ev_75, ev_76, ev_77, ev_78, ev_79, ev_80, ev_81, ev_82, ev_83, mk_lit, mk_fin, mk_cat, mk_fit, mk_nar, mk_fld, mk_cls, mk_ty, mk_isr, List.mem_cons, List.not_mem_nil, or_false, or_true, false_or, true_or, Nat.reduceEqDiff, Nat.reduceAdd, Nat.reduceSub, Nat.reduceLT, Nat.reduceLeDiff, reduceIte, if_true, if_false, List.getElem?_cons_zero, List.getElem?_cons_succ, List.set_cons_zero, List.set_cons_succ, List.length_cons, List.length_nil, mz_s1, mz_s2, mz_cl, true_and, and_true, false_and, and_false, List.append_nil, mk_b0, mk_b1, mk_b2, mk_bn, Value.int.injEq, Option.toList_some, Option.toList_none, List.cons_append, List.nil_append, Classical.not_not, Option.some.injEq, reduceCtorEq, ne_eq, not_true_eq_false, not_false_eq_true, false_implies, true_implies, d_Model_clashes, j_Model_clashes, nF_11, nI_leI (show 24 < 2 ^ 31 by omega) (show k < 2 ^ 31 by omega), show ¬ 24 ≤ k by omega, show (false = true) = False from by simp]
      refine mz_callV (by simp only [d_Model_clashes, Nat.reduceAdd]) g_11_185 rfl (fun _ _ h => h) (c_Model_totals G n f h hM hk hN hb hlv (show k < 24 by omega)) e158 rfl rfl (by decide) (Nat.le_of_ble_eq_true rfl) rfl ?_; intro v_ n_ f_ h_; obtain ⟨rfl, hn_, hf_⟩ := h_; replace hn_ := hn_.symm; replace hf_ := hf_.symm; subst hn_; subst hf_
      by_cases hv : arX (B.2.1 b) (B.2.2.1 b) (B.2.2.2 b) cn lv (32 + k) (B.1 b) = -2
      · have e9 : clX (B.2.1 b) (B.2.2.1 b) (B.2.2.2 b) cn lv (B.1 b) (k + 1) = true := by unfold clX; rw [hr, decide_eq_true hv]; rfl
        rw [e9] at nx
        refine mz_go [5] 30 ?_
        simp only [mz_run, ev_0, ev_1, ev_2, ev_3, ev_4, ev_5, ev_6, ev_7, ev_8, ev_9, ev_10, ev_11, ev_12, ev_13, ev_14, ev_15, ev_16, ev_17, ev_18, ev_19, ev_20, ev_21, ev_22, ev_23, ev_24, ev_25, ev_26, ev_27, ev_28, ev_29, ev_30, ev_31, ev_32, ev_33, ev_34, ev_35, ev_36, ev_37, ev_38, ev_39, ev_40, ev_41, ev_42, ev_43, ev_44, ev_45, ev_46, ev_47, ev_48, ev_49, ev_50, ev_51, ev_52, ev_53, ev_54, ev_55, ev_56, ev_57, ev_58, ev_59, ev_60, ev_61, ev_62, ev_63, ev_64, ev_65, ev_66, ev_67, ev_68, ev_69, ev_70, ev_71, ev_72, ev_73, ev_74, ev_75, ev_76, ev_77, ev_78, ev_79, ev_80, ev_81, ev_82, ev_83, mk_lit, mk_fin, mk_cat, mk_fit, mk_nar, mk_fld, mk_cls, mk_ty, mk_isr, List.mem_cons, List.not_mem_nil, or_false, or_true, false_or, true_or, Nat.reduceEqDiff, Nat.reduceAdd, Nat.reduceSub, Nat.reduceLT, Nat.reduceLeDiff, reduceIte, if_true, if_false, List.getElem?_cons_zero, List.getElem?_cons_succ, List.set_cons_zero, List.set_cons_succ, List.length_cons, List.length_nil, mz_s1, mz_s2, mz_cl, true_and, and_true, false_and, and_false, List.append_nil, mk_b0, mk_b1, mk_b2, mk_bn, Value.int.injEq, Option.toList_some, Option.toList_none, List.cons_append, List.nil_append, Classical.not_not, Option.some.injEq, reduceCtorEq, ne_eq, not_true_eq_false, not_false_eq_true, false_implies, true_implies, d_Model_clashes, j_Model_clashes, nF_11, nI_add, eq_true hv]
        exact nx
      · have e9 : clX (B.2.1 b) (B.2.2.1 b) (B.2.2.2 b) cn lv (B.1 b) (k + 1) = false := by unfold clX; rw [hr, decide_eq_false hv]; rfl
        rw [e9] at nx
        refine mz_go [5] 30 ?_
        simp only [mz_run, ev_0, ev_1, ev_2, ev_3, ev_4, ev_5, ev_6, ev_7, ev_8, ev_9, ev_10, ev_11, ev_12, ev_13, ev_14, ev_15, ev_16, ev_17, ev_18, ev_19, ev_20, ev_21, ev_22, ev_23, ev_24, ev_25, ev_26, ev_27, ev_28, ev_29, ev_30, ev_31, ev_32, ev_33, ev_34, ev_35, ev_36, ev_37, ev_38, ev_39, ev_40, ev_41, ev_42, ev_43, ev_44, ev_45, ev_46, ev_47, ev_48, ev_49, ev_50, ev_51, ev_52, ev_53, ev_54, ev_55, ev_56, ev_57, ev_58, ev_59, ev_60, ev_61, ev_62, ev_63, ev_64, ev_65, ev_66, ev_67, ev_68, ev_69, ev_70, ev_71, ev_72, ev_73, ev_74, ev_75, ev_76, ev_77, ev_78, ev_79, ev_80, ev_81, ev_82, ev_83, mk_lit, mk_fin, mk_cat, mk_fit, mk_nar, mk_fld, mk_cls, mk_ty, mk_isr, List.mem_cons, List.not_mem_nil, or_false, or_true, false_or, true_or, Nat.reduceEqDiff, Nat.reduceAdd, Nat.reduceSub, Nat.reduceLT, Nat.reduceLeDiff, reduceIte, if_true, if_false, List.getElem?_cons_zero, List.getElem?_cons_succ, List.set_cons_zero, List.set_cons_succ, List.length_cons, List.length_nil, mz_s1, mz_s2, mz_cl, true_and, and_true, false_and, and_false, List.append_nil, mk_b0, mk_b1, mk_b2, mk_bn, Value.int.injEq, Option.toList_some, Option.toList_none, List.cons_append, List.nil_append, Classical.not_not, Option.some.injEq, reduceCtorEq, ne_eq, not_true_eq_false, not_false_eq_true, false_implies, true_implies, d_Model_clashes, j_Model_clashes, nF_11, nI_add, eq_false hv]
        exact nx
    | true =>
      have e9 : clX (B.2.1 b) (B.2.2.1 b) (B.2.2.2 b) cn lv (B.1 b) (k + 1) = true := by unfold clX; rw [hr]; rfl
      rw [e9] at nx
      refine mz_go [5] 30 ?_
      simp only [mz_run, ev_0, ev_1, ev_2, ev_3, ev_4, ev_5, ev_6, ev_7, ev_8, ev_9, ev_10, ev_11, ev_12, ev_13, ev_14, ev_15, ev_16, ev_17, ev_18, ev_19, ev_20, ev_21, ev_22, ev_23, ev_24, ev_25, ev_26, ev_27, ev_28, ev_29, ev_30, ev_31, ev_32, ev_33, ev_34, ev_35, ev_36, ev_37, ev_38, ev_39, ev_40, ev_41, ev_42, ev_43, ev_44, ev_45, ev_46, ev_47, ev_48, ev_49, ev_50, ev_51, ev_52, ev_53, ev_54, ev_55, ev_56, ev_57, ev_58, ev_59, ev_60, ev_61, ev_62, ev_63, ev_64, ev_65, ev_66, ev_67, ev_68, ev_69, ev_70, ev_71, ev_72, ev_73, ev_74, ev_75, ev_76, ev_77, ev_78, ev_79, ev_80, ev_81, ev_82, ev_83, mk_lit, mk_fin, mk_cat, mk_fit, mk_nar, mk_fld, mk_cls, mk_ty, mk_isr, List.mem_cons, List.not_mem_nil, or_false, or_true, false_or, true_or, Nat.reduceEqDiff, Nat.reduceAdd, Nat.reduceSub, Nat.reduceLT, Nat.reduceLeDiff, reduceIte, if_true, if_false, List.getElem?_cons_zero, List.getElem?_cons_succ, List.set_cons_zero, List.set_cons_succ, List.length_cons, List.length_nil, mz_s1, mz_s2, mz_cl, true_and, and_true, false_and, and_false, List.append_nil, mk_b0, mk_b1, mk_b2, mk_bn, Value.int.injEq, Option.toList_some, Option.toList_none, List.cons_append, List.nil_append, Classical.not_not, Option.some.injEq, reduceCtorEq, ne_eq, not_true_eq_false, not_false_eq_true, false_implies, true_implies, d_Model_clashes, j_Model_clashes, nF_11, nI_leI (show 24 < 2 ^ 31 by omega) (show k < 2 ^ 31 by omega), show ¬ 24 ≤ k by omega, show (true = true) = True from by simp, nI_add]
      exact nx
theorem c_Model_clashes {cD sD : Nat → Nat → Nat} (G : mz_G) (n : Nat) (f : mz_H) {K ln b lv : Nat} {S cn : Nat → Nat} {B : bS} (h : MP f K ln S B.1 cD sD) (hM : MX f B) (hk : bOk B) (hN : MN f cn) (hb : b < 4) (hlv : lv < 2 ^ 31) : mz_Ct G mk_P y_Model_clashes b_Model_clashes 5 (some .boolean) (r_Model_clashes 0 0) [.ref 158, .int (nI b), .int (nI lv)] n f (fun v n' f' => v = some (.int (mk_b (clX (B.2.1 b) (B.2.2.1 b) (B.2.2.2 b) cn lv (B.1 b) 24 = true))) ∧ n' = n ∧ f' = f) := by
  obtain ⟨t, p, br, u, a, e158⟩ := h.1.1
  refine mk_Ct 11 false [some (.ref 158), some (.int (nI b)), some (.int (nI lv)), none, none] (by decide) rfl (by decide) (Nat.le_of_ble_eq_true rfl) rfl ?_
  refine mz_go [5] 30 ?_
  simp only [mz_run, ev_0, ev_1, ev_2, ev_3, ev_4, ev_5, ev_6, ev_7, ev_8, ev_9, ev_10, ev_11, ev_12, ev_13, ev_14, ev_15, ev_16, ev_17, ev_18, ev_19, ev_20, ev_21, ev_22, ev_23, ev_24, ev_25, ev_26, ev_27, ev_28, ev_29, ev_30, ev_31, ev_32, ev_33, ev_34, ev_35, ev_36, ev_37, ev_38, ev_39, ev_40, ev_41, ev_42, ev_43, ev_44, ev_45, ev_46, ev_47, ev_48, ev_49, ev_50, ev_51, ev_52, ev_53, ev_54, ev_55, ev_56, ev_57, ev_58, ev_59, ev_60, ev_61, ev_62, ev_63, ev_64, ev_65, ev_66, ev_67, ev_68, ev_69, ev_70, ev_71, ev_72, ev_73, ev_74, ev_75, ev_76, ev_77, ev_78, ev_79, ev_80, ev_81, ev_82, ev_83, mk_lit, mk_fin, mk_cat, mk_fit, mk_nar, mk_fld, mk_cls, mk_ty, mk_isr, List.mem_cons, List.not_mem_nil, or_false, or_true, false_or, true_or, Nat.reduceEqDiff, Nat.reduceAdd, Nat.reduceSub, Nat.reduceLT, Nat.reduceLeDiff, reduceIte, if_true, if_false, List.getElem?_cons_zero, List.getElem?_cons_succ, List.set_cons_zero, List.set_cons_succ, List.length_cons, List.length_nil, mz_s1, mz_s2, mz_cl, true_and, and_true, false_and, and_false, List.append_nil, mk_b0, mk_b1, mk_b2, mk_bn, Value.int.injEq, Option.toList_some, Option.toList_none, List.cons_append, List.nil_append, Classical.not_not, Option.some.injEq, reduceCtorEq, ne_eq, not_true_eq_false, not_false_eq_true, false_implies, true_implies, d_Model_clashes, j_Model_clashes, nF_11]
  have w := l_Model_clashes G n f e158 h hM hk hN hb hlv 24 0 rfl
  exact w
