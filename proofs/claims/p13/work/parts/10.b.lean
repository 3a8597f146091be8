def Tb (f : mz_H) (x : Nat) : Prop := f 16 = .inr (10, [.ref 17, .ref 18, .ref 120, .ref 122, .ref 124]) ∧ (∃ g, f 17 = aI 4 g) ∧ Pa f x ∧ x ≤ 100 ∧ (∃ cl, f 120 = .inr (6, [.int (nI 32), .ref 121, .int cl])) ∧ (∃ g, f 121 = aI 24 g) ∧ (∃ cl, f 122 = .inr (6, [.int (nI 32), .ref 123, .int cl])) ∧ (∃ g, f 123 = aI 24 g) ∧ (∃ cl, f 124 = .inr (6, [.int (nI 64), .ref 125, .int cl])) ∧ (∃ g, f 125 = aI 24 g)
/-- what a card has brought to the entries, where nothing clashes -/
def En (f : mz_H) (F T t : Nat → Nat) (w : Nat) : Prop := ∃ g, f 125 = aI 24 g ∧ enOk g F T t w
/-- what a card has brought to its line, where nothing clashes -/
def Ln (f : mz_H) (F T t : Nat → Nat) (w : Nat) : Prop := ∃ g, f 123 = aI 24 g ∧ ∀ p, p < 24 → (if g p = -1 then nI 32 else g p) = nI (prN (arN F T t (32 + p) w))
/-- counters and paper, exactly -/
def TT (f : mz_H) (u : tT) : Prop := f 17 = aI 4 (fun j => nI (u.1 j)) ∧ f 18 = .inr (7, [.ref 19, .int (nI u.2.1)]) ∧ (∀ i, i < u.2.1 → ∃ g, f (20 + i) = aI 24 g ∧ ∀ p, p < 24 → g p = nI (u.2.2 i p)) ∧ u.2.1 ≤ 100 ∧ ∀ c, c < 4 → u.1 c < 1000000
def FrT (f F : mz_H) : Prop := ∀ z, z ≠ 17 → z ≠ 18 → (z < 20 ∨ 125 < z) → F z = f z
theorem FrT_rf {f : mz_H} : FrT f f := fun _ _ _ _ => rfl
theorem FrT_tr {f F H : mz_H} (h : FrT f F) (h2 : FrT F H) : FrT f H := fun z a b c => (h2 z a b c).trans (h z a b c)
theorem FrT_u {f F : mz_H} (h : FrT f F) {a : Nat} (ha : a = 17 ∨ a = 18 ∨ 20 ≤ a ∧ a ≤ 125) (x : mz_C) : FrT f (mz_u F a x) := fun z z2 z3 z4 => by
  rw [mz_u_n (by omega)]; exact h z z2 z3 z4
def FrL (f F : mz_H) : Prop := ∀ z, z ≠ 4 → z ≠ 17 → z ≠ 18 → (z < 20 ∨ 125 < z) → F z = f z
theorem FrL_4 {f F : mz_H} (h : FrT f F) (x : mz_C) : FrL f (mz_u F 4 x) := fun z z1 z2 z3 z4 => by
  rw [mz_u_n z1]; exact h z z2 z3 z4
theorem T4 {f F : mz_H} (h : FrT f F) : F 4 = f 4 := h 4 (by decide) (by decide) (by decide)
theorem Bd_T {f H : mz_H} (h : FrT f H) {b w : Nat} {F T L : Nat → Nat} (hB : Bd f b w F T L) (hb : 126 < b) : Bd H b w F T L := by
  unfold Bd
  rw [h b (by omega) (by omega) (by omega), h (b + 1) (by omega) (by omega) (by omega), h (b + 2) (by omega) (by omega) (by omega), h (b + 3) (by omega) (by omega) (by omega)]
  exact hB
theorem Cd_T {f H : mz_H} (h : FrT f H) {K : Nat} {s : Nat → Nat → Nat} (hC : Cd f K s) : Cd H K s := fun k hk => by
  rw [h (172 + 2 * k) (by omega) (by omega) (by omega), h (173 + 2 * k) (by omega) (by omega) (by omega)]
  exact hC k hk
theorem E_T {f H : mz_H} (h : FrT f H) (hE : f 1000000000001 = mz_d) : H 1000000000001 = mz_d := by
  rw [h _ (by decide) (by decide) (by decide)]; exact hE
theorem Tb_17 {f : mz_H} {x : Nat} (h : Tb f x) (g : Nat → Int32) : Tb (mz_u f 17 (aI 4 g)) x := by
  obtain ⟨t1, t2, t3, t4, t5, t6, t7, t8, t9, t10⟩ := h
  refine ⟨?_, ⟨g, mz_u_s _ _ _⟩, Pa_u t3 (by decide) _, t4, ?_, ?_, ?_, ?_, ?_, ?_⟩ <;> rw [mz_u_n (by decide)] <;> assumption
theorem Tb_4 {f : mz_H} {x : Nat} (h : Tb f x) (y : mz_C) : Tb (mz_u f 4 y) x := by
  obtain ⟨t1, t2, t3, t4, t5, t6, t7, t8, t9, t10⟩ := h
  refine ⟨?_, ?_, Pa_u t3 (by decide) _, t4, ?_, ?_, ?_, ?_, ?_, ?_⟩ <;> rw [mz_u_n (by decide)] <;> assumption
theorem Tb_120 {f : mz_H} {x : Nat} (h : Tb f x) (g : Nat → Int32) (cl : Int32) : Tb (jH f 120 121 32 24 g cl) x := by
  obtain ⟨t1, t2, t3, t4, t5, t6, t7, t8, t9, t10⟩ := h
  unfold jH
  refine ⟨?_, ?_, Pa_u (Pa_u t3 (by decide) _) (by decide) _, t4, ⟨cl, mz_u_s _ _ _⟩, ⟨g, by rw [mz_u_n (by decide)]; exact mz_u_s _ _ _⟩, ?_, ?_, ?_, ?_⟩ <;> rw [mz_u_n (by decide), mz_u_n (by decide)] <;> assumption
theorem Tb_122 {f : mz_H} {x : Nat} (h : Tb f x) (g : Nat → Int32) (cl : Int32) : Tb (jH f 122 123 32 24 g cl) x := by
  obtain ⟨t1, t2, t3, t4, t5, t6, t7, t8, t9, t10⟩ := h
  unfold jH
  refine ⟨?_, ?_, Pa_u (Pa_u t3 (by decide) _) (by decide) _, t4, ?_, ?_, ⟨cl, mz_u_s _ _ _⟩, ⟨g, by rw [mz_u_n (by decide)]; exact mz_u_s _ _ _⟩, ?_, ?_⟩ <;> rw [mz_u_n (by decide), mz_u_n (by decide)] <;> assumption
theorem Tb_124 {f : mz_H} {x : Nat} (h : Tb f x) (g : Nat → Int32) (cl : Int32) : Tb (jH f 124 125 64 24 g cl) x := by
  obtain ⟨t1, t2, t3, t4, t5, t6, t7, t8, t9, t10⟩ := h
  unfold jH
  refine ⟨?_, ?_, Pa_u (Pa_u t3 (by decide) _) (by decide) _, t4, ?_, ?_, ?_, ?_, ⟨cl, mz_u_s _ _ _⟩, ⟨g, by rw [mz_u_n (by decide)]; exact mz_u_s _ _ _⟩⟩ <;> rw [mz_u_n (by decide), mz_u_n (by decide)] <;> assumption
theorem FrT_jH {f F : mz_H} (h : FrT f F) {j ja q N : Nat} {g : Nat → Int32} {cl : Int32} (hj : 20 ≤ j ∧ j ≤ 125) (hja : 20 ≤ ja ∧ ja ≤ 125) : FrT f (jH F j ja q N g cl) := FrT_u (FrT_u h (by omega) _) (by omega) _
theorem En_o {f H : mz_H} {F T t : Nat → Nat} {w : Nat} (h : En f F T t w) (e : H 125 = f 125) : En H F T t w := by
  obtain ⟨g, h1, h2⟩ := h; exact ⟨g, e.trans h1, h2⟩
theorem Ln_o {f H : mz_H} {F T t : Nat → Nat} {w : Nat} (h : Ln f F T t w) (e : H 123 = f 123) : Ln H F T t w := by
  obtain ⟨g, h1, h2⟩ := h; exact ⟨g, e.trans h1, h2⟩
theorem TT_eq {f F : mz_H} {u : tT} (h : TT f u) (he : ∀ q, q = 17 ∨ q = 18 ∨ (20 ≤ q ∧ q < 120) → F q = f q) : TT F u := by
  obtain ⟨h1, h2, h3, h4, h5⟩ := h
  refine ⟨(he 17 (by decide)).trans h1, (he 18 (by decide)).trans h2, fun i hi => ?_, h4, h5⟩
  obtain ⟨g, a, b⟩ := h3 i hi
  exact ⟨g, (he (20 + i) (by omega)).trans a, b⟩
theorem TT_17 {f : mz_H} {u : tT} (h : TT f u) {cm : Nat → Nat} (hc : ∀ c, c < 4 → cm c < 1000000) : TT (mz_u f 17 (aI 4 (fun j => nI (cm j)))) (cm, u.2) := by
  obtain ⟨h1, h2, h3, h4, h5⟩ := h
  refine ⟨mz_u_s _ _ _, (mz_u_n (by decide)).trans h2, fun i hi => ?_, h4, hc⟩
  obtain ⟨g, a, b⟩ := h3 i hi
  exact ⟨g, (mz_u_n (by omega)).trans a, b⟩
theorem TT_pr {f F : mz_H} {u : tT} {gr : Nat → Int32} {r : Nat → Nat} (h : TT f u) (hx : u.2.1 < 100) (hF : ∀ z, z ≠ 18 → z ≠ 20 + u.2.1 → F z = f z) (h18 : F 18 = .inr (7, [.ref 19, .int (nI (u.2.1 + 1))])) (hr : F (20 + u.2.1) = aI 24 gr) (hg : ∀ p, p < 24 → gr p = nI (r p)) : TT F (u.1, u.2.1 + 1, va_up u.2.2 u.2.1 r) := by
  obtain ⟨h1, h2, h3, h4, h5⟩ := h
  refine ⟨(hF 17 (by decide) (by omega)).trans h1, h18, fun i hi => ?_, hx, h5⟩
  have hi' : i < u.2.1 + 1 := hi
  by_cases e : i = u.2.1
  · subst e
    refine ⟨gr, hr, fun p hp => ?_⟩
    show gr p = nI (va_up u.2.2 u.2.1 r u.2.1 p)
    rw [va_up_self]; exact hg p hp
  · obtain ⟨g, a, b⟩ := h3 i (by omega)
    refine ⟨g, (hF _ (by omega) (by omega)).trans a, fun p hp => ?_⟩
    show g p = nI (va_up u.2.2 u.2.1 r i p)
    rw [va_up_ne _ _ e]; exact b p hp
/-- the counters of a level, up to k, at 0 -/
def clK (L : Nat → Nat) (lv k : Nat) (cn : Nat → Nat) : Nat → Nat := fun c => if c < k ∧ L c = lv then 0 else cn c
theorem clK_1 {L cn : Nat → Nat} {lv k : Nat} (h : L k = lv) : va_up (clK L lv k cn) k 0 = clK L lv (k + 1) cn := by
  funext c
  unfold va_up clK
  by_cases e : c = k
  · rw [if_pos e, if_pos ⟨by omega, by rw [e]; exact h⟩]
  · rw [if_neg e]
    by_cases e2 : c < k ∧ L c = lv
    · rw [if_pos e2, if_pos ⟨by omega, e2.2⟩]
    · rw [if_neg e2, if_neg (fun z => e2 ⟨by omega, z.2⟩)]
theorem clK_0 {L cn : Nat → Nat} {lv k : Nat} (h : ¬ L k = lv) : clK L lv (k + 1) cn = clK L lv k cn := by
  funext c
  unfold clK
  by_cases e2 : c < k ∧ L c = lv
  · rw [if_pos e2, if_pos ⟨by omega, e2.2⟩]
  · rw [if_neg e2, if_neg (fun z => by
      by_cases e : c = k
      · exact h (by rw [← e]; exact z.2)
      · exact e2 ⟨by omega, z.2⟩)]
theorem clK_z (L cn : Nat → Nat) (lv : Nat) : clK L lv 0 cn = cn := by
  funext c
  unfold clK
  rw [if_neg (fun z => Nat.not_lt_zero _ z.1)]
def adK (cn e : Nat → Nat) (k : Nat) : Nat → Nat := fun c => if c < k then cn c + e c else cn c
theorem adK_k (cn e : Nat → Nat) (k : Nat) : adK cn e k k = cn k := if_neg (Nat.lt_irrefl _)
theorem adK_1 (cn e : Nat → Nat) (k : Nat) : va_up (adK cn e k) k (cn k + e k) = adK cn e (k + 1) := by
  funext c
  unfold va_up adK
  by_cases h : c = k
  · rw [if_pos h, if_pos (by omega), h]
  · rw [if_neg h]
    by_cases e2 : c < k
    · rw [if_pos e2, if_pos (by omega)]
    · rw [if_neg e2, if_neg (by omega)]
theorem adK_z (cn e : Nat → Nat) : adK cn e 0 = cn := by
  funext c
  unfold adK
  rw [if_neg (Nat.not_lt_zero _)]
theorem Tb_pr {f F : mz_H} {x : Nat} (h : Tb f x) (hx : x < 100) (hF : ∀ z, z ≠ 18 → z ≠ 20 + x → F z = f z) (hP : Pa F (x + 1)) : Tb F (x + 1) := by
  obtain ⟨t1, t2, t3, t4, t5, t6, t7, t8, t9, t10⟩ := h
  refine ⟨?_, ?_, hP, hx, ?_, ?_, ?_, ?_, ?_, ?_⟩ <;> rw [hF _ (by omega) (by omega)] <;> assumption
theorem FrT_pr {f F : mz_H} {x : Nat} (hx : x < 100) (hF : ∀ z, z ≠ 18 → z ≠ 20 + x → F z = f z) : FrT f F := fun z z2 z3 z4 => hF z z3 (by omega)
theorem l_Tabulator_clearCounters (G : mz_G) (X : mz_E) (n : Nat) (f : mz_H) {b w lv : Nat} {F T L cn : Nat → Nat} {t1 t2 t3 t4 : Value} (h16 : f 16 = .inr (10, [.ref 17, t1, t2, t3, t4])) (hB : Bd f b w F T L) (hok : BdOk w F T L) (hb : 126 < b) (hlv : lv < 2 ^ 31) :
    ∀ m k, k + m = 4 → mz_X G X 10 false b_Tabulator_clearCounters 4 none (r_Tabulator_clearCounters 0 0) (fun v n' f' => v = none ∧ n' = n ∧ f' = mz_u f 17 (aI 4 (fun j => nI (clK L lv 4 cn j)))) (fun _ _ _ => False) 2 [some (.ref 16), some (.ref b), some (.int (nI lv)), some (.int (nI k))] [] 0 0 n (mz_u f 17 (aI 4 (fun j => nI (clK L lv k cn j)))) := by
  intro m
  induction m with
  | zero =>
    intro k hk
    have : k = 4 := by omega
    subst this
    refine mz_go [2] 20 ?_
    simp only [mz_run, ev_0, ev_1, ev_2, ev_3, ev_4, ev_5, ev_6, ev_7, ev_8, ev_9, ev_10, ev_11, ev_12, ev_13, ev_14, ev_15, ev_16, ev_17, ev_18, ev_19, ev_20, ev_21, ev_22, ev_23, ev_24, ev_25, ev_26, ev_27, ev_28, ev_29, ev_30, ev_31, ev_32, ev_33, ev_34, ev_35, ev_36, ev_37, ev_38, ev_39, ev_40, ev_41, ev_42, ev_43, ev_44, ev_45, ev_46, ev_47, ev_48, ev_49, ev_50, ev_51, ev_52, ev_53, ev_54, ev_55, ev_56, ev_57, ev_58, ev_59, ev_60, ev_61, ev_62, ev_63, ev_64, ev_65, ev_66, ev_67, ev_68, ev_69, ev_70, ev_71, ev_72, ev_73, ev_74, ev_75, ev_76, ev_77, ev_78, ev_79, ev_80, ev_81, ev_82, ev_83, mk_lit, mk_fin, mk_cat, mk_fit, mk_nar, mk_fld, mk_cls, mk_ty, mk_isr, List.mem_cons, List.not_mem_nil, or_false, or_true, false_or, true_or, Nat.reduceEqDiff, Nat.reduceAdd, Nat.reduceSub, Nat.reduceLT, Nat.reduceLeDiff, reduceIte, if_true, if_false, List.getElem?_cons_zero, List.getElem?_cons_succ, List.set_cons_zero, List.set_cons_succ, List.length_cons, List.length_nil, mz_s1, mz_s2, mz_cl, true_and, and_true, false_and, and_false, List.append_nil, mk_b0, mk_b1, mk_b2, mk_bn, Value.int.injEq, Option.toList_some, Option.toList_none, List.cons_append, List.nil_append, Classical.not_not, Option.some.injEq, reduceCtorEq, ne_eq, not_true_eq_false, not_false_eq_true, false_implies, true_implies, d_Tabulator_clearCounters, j_Tabulator_clearCounters, nF_10, mk_le, mk_ti, Int.le_refl]
  | succ m ih =>
    intro k hk
    have e := hok.2.2 k (by omega)
    have ih' := ih (k + 1) (by omega)
    by_cases h : L k = lv
    · rw [← clK_1 h] at ih'
      refine mz_go [2] 40 ?_
      simp only [mz_run, ev_0, ev_1, ev_2, ev_3, ev_4, ev_5, ev_6, ev_7, ev_8, ev_9, ev_10, ev_11, ev_12, ev_13, ev_14, ev_15, ev_16, ev_17, ev_18, ev_19, ev_20, ev_21, ev_22, ev_23, ev_24, ev_25, ev_26, ev_27, ev_28, ev_29, ev_30, ev_31, ev_32, ev_33, ev_34, ev_35, ev_36, ev_37, ev_38, ev_39, ev_40, ev_41, ev_42, ev_43, ev_44, ev_45, ev_46, ev_47, ev_48, ev_49, ev_50, ev_51, ev_52, ev_53, ev_54, ev_55, ev_56, ev_57, ev_58, ev_59, ev_60, ev_61, ev_62, ev_63, ev_64, ev_65, ev_66, ev_67, ev_68, ev_69, ev_70, ev_71, ev_72, ev_73, ev_74, ev_75, ev_76, ev_77, ev_78, ev_79, ev_80, ev_81, ev_82, ev_83, mk_lit, mk_fin, mk_cat, mk_fit, mk_nar, mk_fld, mk_cls, mk_ty, mk_isr, List.mem_cons, List.not_mem_nil, or_false, or_true, false_or, true_or, Nat.reduceEqDiff, Nat.reduceAdd, Nat.reduceSub, Nat.reduceLT, Nat.reduceLeDiff, reduceIte, if_true, if_false, List.getElem?_cons_zero, List.getElem?_cons_succ, List.set_cons_zero, List.set_cons_succ, List.length_cons, List.length_nil, mz_s1, mz_s2, mz_cl, true_and, and_true, false_and, and_false, List.append_nil, mk_b0, mk_b1, mk_b2, mk_bn, Value.int.injEq, Option.toList_some, Option.toList_none, List.cons_append, List.nil_append, Classical.not_not, Option.some.injEq, reduceCtorEq, ne_eq, not_true_eq_false, not_false_eq_true, false_implies, true_implies, d_Tabulator_clearCounters, j_Tabulator_clearCounters, nF_10, nI_leI (show 4 < 2 ^ 31 by decide) (show k < 2 ^ 31 by omega), show ¬ 4 ≤ k by omega, hB.1, hB.2.2.2, h16, mz_u_n (show b ≠ 17 by omega), mz_u_n (show b + 3 ≠ 17 by omega), mz_u_n (show 16 ≠ 17 by decide), mz_u_s, mz_uu, vp_in_nI (show k < 4 by omega) (show 4 < 2 ^ 31 by decide), nI_clamp (show k < 2 ^ 31 by omega), nI_eq (show L k < 2 ^ 31 by omega) hlv, eq_true h, nI_add, upd_nI]
      exact ih'
    · rw [clK_0 h] at ih'
      refine mz_go [2] 40 ?_
      simp only [mz_run, ev_0, ev_1, ev_2, ev_3, ev_4, ev_5, ev_6, ev_7, ev_8, ev_9, ev_10, ev_11, ev_12, ev_13, ev_14, ev_15, ev_16, ev_17, ev_18, ev_19, ev_20, ev_21, ev_22, ev_23, ev_24, ev_25, ev_26, ev_27, ev_28, ev_29, ev_30, ev_31, ev_32, ev_33, ev_34, ev_35, ev_36, ev_37, ev_38, ev_39, ev_40, ev_41, ev_42, ev_43, ev_44, ev_45, ev_46, ev_47, ev_48, ev_49, ev_50, ev_51, ev_52, ev_53, ev_54, ev_55, ev_56, ev_57, ev_58, ev_59, ev_60, ev_61, ev_62, ev_63, ev_64, ev_65, ev_66, ev_67, ev_68, ev_69, ev_70, ev_71, ev_72, ev_73, ev_74, ev_75, ev_76, ev_77, ev_78, ev_79, ev_80, ev_81, ev_82, ev_83, mk_lit, mk_fin, mk_cat, mk_fit, mk_nar, mk_fld, mk_cls, mk_ty, mk_isr, List.mem_cons, List.not_mem_nil, or_false, or_true, false_or, true_or, Nat.reduceEqDiff, Nat.reduceAdd, Nat.reduceSub, Nat.reduceLT, Nat.reduceLeDiff, reduceIte, if_true, if_false, List.getElem?_cons_zero, List.getElem?_cons_succ, List.set_cons_zero, List.set_cons_succ, List.length_cons, List.length_nil, mz_s1, mz_s2, mz_cl, true_and, and_true, false_and, and_false, List.append_nil, mk_b0, mk_b1, mk_b2, mk_bn, Value.int.injEq, Option.toList_some, Option.toList_none, List.cons_append, List.nil_append, Classical.not_not, Option.some.injEq, reduceCtorEq, ne_eq, not_true_eq_false, not_false_eq_true, false_implies, true_implies, d_Tabulator_clearCounters, j_Tabulator_clearCounters, nF_10, nI_leI (show 4 < 2 ^ 31 by decide) (show k < 2 ^ 31 by omega), show ¬ 4 ≤ k by omega, hB.1, hB.2.2.2, h16, mz_u_n (show b ≠ 17 by omega), mz_u_n (show b + 3 ≠ 17 by omega), mz_u_n (show 16 ≠ 17 by decide), mz_u_s, mz_uu, vp_in_nI (show k < 4 by omega) (show 4 < 2 ^ 31 by decide), nI_clamp (show k < 2 ^ 31 by omega), nI_eq (show L k < 2 ^ 31 by omega) hlv, eq_false h, nI_add]
      exact ih'
theorem c_Tabulator_clearCounters (G : mz_G) (X : mz_E) (n : Nat) (f : mz_H) {b w lv x : Nat} {F T L cn : Nat → Nat} (hT : Tb f x) (h17 : f 17 = aI 4 (fun j => nI (cn j))) (hB : Bd f b w F T L) (hok : BdOk w F T L) (hb : 126 < b) (hlv : lv < 2 ^ 31) :
    mz_Ct G X y_Tabulator_clearCounters b_Tabulator_clearCounters 4 none (r_Tabulator_clearCounters 0 0) [.ref 16, .ref b, .int (nI lv)] n f (fun v n' f' => v = none ∧ n' = n ∧ f' = mz_u f 17 (aI 4 (fun j => nI (clK L lv 4 cn j)))) := by
  refine mk_Ct 10 false [some (.ref 16), some (.ref b), some (.int (nI lv)), none] (by decide) rfl (by decide) (Nat.le_of_ble_eq_true rfl) rfl ?_
  refine mz_go [2] 20 ?_
  simp only [mz_run, ev_0, ev_1, ev_2, ev_3, ev_4, ev_5, ev_6, ev_7, ev_8, ev_9, ev_10, ev_11, ev_12, ev_13, ev_14, ev_15, ev_16, ev_17, ev_18, ev_19, ev_20, ev_21, ev_22, ev_23, ev_24, ev_25, ev_26, ev_27, ev_28, ev_29, ev_30, ev_31, ev_32, ev_33, ev_34, ev_35, ev_36, ev_37, ev_38, ev_39, ev_40, ev_41, ev_42, ev_43, ev_44, ev_45, ev_46, ev_47, ev_48, ev_49, ev_50, ev_51, ev_52, ev_53, ev_54, ev_55, ev_56, ev_57, ev_58, ev_59, ev_60, ev_61, ev_62, ev_63, ev_64, ev_65, ev_66, ev_67, ev_68, ev_69, ev_70, ev_71, ev_72, ev_73, ev_74, ev_75, ev_76, ev_77, ev_78, ev_79, ev_80, ev_81, ev_82, ev_83, mk_lit, mk_fin, mk_cat, mk_fit, mk_nar, mk_fld, mk_cls, mk_ty, mk_isr, List.mem_cons, List.not_mem_nil, or_false, or_true, false_or, true_or, Nat.reduceEqDiff, Nat.reduceAdd, Nat.reduceSub, Nat.reduceLT, Nat.reduceLeDiff, reduceIte, if_true, if_false, List.getElem?_cons_zero, List.getElem?_cons_succ, List.set_cons_zero, List.set_cons_succ, List.length_cons, List.length_nil, mz_s1, mz_s2, mz_cl, true_and, and_true, false_and, and_false, List.append_nil, mk_b0, mk_b1, mk_b2, mk_bn, Value.int.injEq, Option.toList_some, Option.toList_none, List.cons_append, List.nil_append, Classical.not_not, Option.some.injEq, reduceCtorEq, ne_eq, not_true_eq_false, not_false_eq_true, false_implies, true_implies, d_Tabulator_clearCounters, j_Tabulator_clearCounters, nF_10]
  have := l_Tabulator_clearCounters G X n f (cn := cn) hT.1 hB hok hb hlv 4 0 (by omega)
  rw [clK_z, mz_ui h17] at this
  exact this
theorem l_Tabulator_doCard (G : mz_G) (n : Nat) (f : mz_H) {x w : Nat} {F T t cn : Nat → Nat} {w1 : Int32} (hE : f 1000000000001 = mz_d) (hT : Tb f x) (hen : En f F T t w) (post : Option Value → Nat → mz_H → Prop) (hp : post none n (mz_u f 17 (aI 4 (fun j => nI (adK cn (fun c => enN F T t w c 6) 4 j))))) :
    ∀ m k, k + m = 4 → mz_X G mk_P 10 false b_Tabulator_doCard 3 none (r_Tabulator_doCard 0 0) post (fun _ _ _ => False) 17 [some (.ref 16), some (.int w1), some (.int (nI k))] [] 0 0 n (mz_u f 17 (aI 4 (fun j => nI (adK cn (fun c => enN F T t w c 6) k j)))) := by
  obtain ⟨g5, k5, hg5⟩ := hen
  obtain ⟨cl, k4⟩ := hT.2.2.2.2.2.2.2.2.1
  have h16 := hT.1
  intro m
  induction m with
  | zero =>
    intro k hk
    have : k = 4 := by omega
    subst this
    refine mz_go [17] 20 ?_
    simp only [mz_run, ev_0, ev_1, ev_2, ev_3, ev_4, ev_5, ev_6, ev_7, ev_8, ev_9, ev_10, ev_11, ev_12, ev_13, ev_14, ev_15, ev_16, ev_17, ev_18, ev_19, ev_20, ev_21, ev_22, ev_23, ev_24, ev_25, ev_26, ev_27, ev_28, ev_29, ev_30, ev_31, ev_32, ev_33, ev_34, ev_35, ev_36, ev_37, ev_38, ev_39, ev_40, ev_41, ev_42, ev_43, ev_44, ev_45, ev_46, ev_47, ev_48, ev_49, ev_50, ev_51, ev_52, ev_53, ev_54, ev_55, ev_56, ev_57, ev_58, ev_59, ev_60, ev_61, ev_62, ev_63, ev_64, ev_65, ev_66, ev_67, ev_68, ev_69, ev_70, ev_71, ev_72, ev_73, ev_74, ev_75, ev_76, ev_77, ev_78, ev_79, ev_80, ev_81, ev_82, ev_83, mk_lit, mk_fin, mk_cat, mk_fit, mk_nar, mk_fld, mk_cls, mk_ty, mk_isr, List.mem_cons, List.not_mem_nil, or_false, or_true, false_or, true_or, Nat.reduceEqDiff, Nat.reduceAdd, Nat.reduceSub, Nat.reduceLT, Nat.reduceLeDiff, reduceIte, if_true, if_false, List.getElem?_cons_zero, List.getElem?_cons_succ, List.set_cons_zero, List.set_cons_succ, List.length_cons, List.length_nil, mz_s1, mz_s2, mz_cl, true_and, and_true, false_and, and_false, List.append_nil, mk_b0, mk_b1, mk_b2, mk_bn, Value.int.injEq, Option.toList_some, Option.toList_none, List.cons_append, List.nil_append, Classical.not_not, Option.some.injEq, reduceCtorEq, ne_eq, not_true_eq_false, not_false_eq_true, false_implies, true_implies, d_Tabulator_doCard, j_Tabulator_doCard, nF_10, mk_le, mk_ti, Int.le_refl]
    exact hp
  | succ m ih =>
    intro k hk
    have ih' := ih (k + 1) (by omega)
    rw [← adK_1] at ih'
    refine mz_go [31] 40 ?_
    simp only [mz_run, ev_0, ev_1, ev_2, ev_3, ev_4, ev_5, ev_6, ev_7, ev_8, ev_9, ev_10, ev_11, ev_12, ev_13, ev_14, ev_15, ev_16, ev_17, ev_18, ev_19, ev_20, ev_21, ev_22, ev_23, ev_24, ev_25, ev_26, ev_27, ev_28, ev_29, ev_30, ev_31, ev_32, ev_33, ev_34, ev_35, ev_36, ev_37, ev_38, ev_39, ev_40, ev_41, ev_42, ev_43, ev_44, ev_45, ev_46, ev_47, ev_48, ev_49, ev_50, ev_51, ev_52, ev_53, ev_54, ev_55, ev_56, ev_57, ev_58, ev_59, ev_60, ev_61, ev_62, ev_63, ev_64, ev_65, ev_66, ev_67, ev_68, ev_69, ev_70, ev_71, ev_72, ev_73, ev_74, ev_75, ev_76, ev_77, ev_78, ev_79, ev_80, ev_81, ev_82, ev_83, mk_lit, mk_fin, mk_cat, mk_fit, mk_nar, mk_fld, mk_cls, mk_ty, mk_isr, List.mem_cons, List.not_mem_nil, or_false, or_true, false_or, true_or, Nat.reduceEqDiff, Nat.reduceAdd, Nat.reduceSub, Nat.reduceLT, Nat.reduceLeDiff, reduceIte, if_true, if_false, List.getElem?_cons_zero, List.getElem?_cons_succ, List.set_cons_zero, List.set_cons_succ, List.length_cons, List.length_nil, mz_s1, mz_s2, mz_cl, true_and, and_true, false_and, and_false, List.append_nil, mk_b0, mk_b1, mk_b2, mk_bn, Value.int.injEq, Option.toList_some, Option.toList_none, List.cons_append, List.nil_append, Classical.not_not, Option.some.injEq, reduceCtorEq, ne_eq, not_true_eq_false, not_false_eq_true, false_implies, true_implies, d_Tabulator_doCard, j_Tabulator_doCard, nF_10, nI_leI (show 4 < 2 ^ 31 by decide) (show k < 2 ^ 31 by omega), show ¬ 4 ≤ k by omega, h16, mz_u_n (show 16 ≠ 17 by decide), mz_u_s, vp_in_nI (show k < 4 by omega) (show 4 < 2 ^ 31 by decide), nI_clamp (show k < 2 ^ 31 by omega)]
    refine mz_callV (by simp only [d_Tabulator_doCard, Nat.reduceAdd]) g_10_123 rfl (fun _ _ h => h) (c_Tabulator_entered G n (mz_u f 17 (aI 4 (fun j => nI (adK cn (fun c => enN F T t w c 6) k j)))) (k := k) (show _ = mz_d by rw [mz_u_n (by decide)]; exact hE) (show _ = (Sum.inr (10, [.ref 17, .ref 18, .ref 120, .ref 122, .ref 124]) : mz_C) by rw [mz_u_n (by decide)]; exact h16) (show _ = (Sum.inr (6, [.int (nI 64), .ref 125, .int cl]) : mz_C) by rw [mz_u_n (by decide)]; exact k4) (show _ = aI 24 g5 by rw [mz_u_n (by decide)]; exact k5) (show k < 4 by omega) hg5) (show _ = (Sum.inr (10, [.ref 17, .ref 18, .ref 120, .ref 122, .ref 124]) : mz_C) by rw [mz_u_n (by decide)]; exact h16) rfl rfl (by decide) (Nat.le_of_ble_eq_true rfl) rfl ?_; intro v_ n_ f_ h_; obtain ⟨rfl, hn_, hf_⟩ := h_; replace hn_ := hn_.symm; replace hf_ := hf_.symm; subst hn_; subst hf_
    refine mz_go [17] 40 ?_
    simp only [mz_run, ev_0, ev_1, ev_2, ev_3, ev_4, ev_5, ev_6, ev_7, ev_8, ev_9, ev_10, ev_11, ev_12, ev_13, ev_14, ev_15, ev_16, ev_17, ev_18, ev_19, ev_20, ev_21, ev_22, ev_23, ev_24, ev_25, ev_26, ev_27, ev_28, ev_29, ev_30, ev_31, ev_32, ev_33, ev_34, ev_35, ev_36, ev_37, ev_38, ev_39, ev_40, ev_41, ev_42, ev_43, ev_44, ev_45, ev_46, ev_47, ev_48, ev_49, ev_50, ev_51, ev_52, ev_53, ev_54, ev_55, ev_56, ev_57, ev_58, ev_59, ev_60, ev_61, ev_62, ev_63, ev_64, ev_65, ev_66, ev_67, ev_68, ev_69, ev_70, ev_71, ev_72, ev_73, ev_74, ev_75, ev_76, ev_77, ev_78, ev_79, ev_80, ev_81, ev_82, ev_83, mk_lit, mk_fin, mk_cat, mk_fit, mk_nar, mk_fld, mk_cls, mk_ty, mk_isr, List.mem_cons, List.not_mem_nil, or_false, or_true, false_or, true_or, Nat.reduceEqDiff, Nat.reduceAdd, Nat.reduceSub, Nat.reduceLT, Nat.reduceLeDiff, reduceIte, if_true, if_false, List.getElem?_cons_zero, List.getElem?_cons_succ, List.set_cons_zero, List.set_cons_succ, List.length_cons, List.length_nil, mz_s1, mz_s2, mz_cl, true_and, and_true, false_and, and_false, List.append_nil, mk_b0, mk_b1, mk_b2, mk_bn, Value.int.injEq, Option.toList_some, Option.toList_none, List.cons_append, List.nil_append, Classical.not_not, Option.some.injEq, reduceCtorEq, ne_eq, not_true_eq_false, not_false_eq_true, false_implies, true_implies, d_Tabulator_doCard, j_Tabulator_doCard, nF_10, mz_u_s, mz_uu, vp_in_nI (show k < 4 by omega) (show 4 < 2 ^ 31 by decide), nI_clamp (show k < 2 ^ 31 by omega), adK_k, nI_add, upd_nI]
    exact ih'
theorem c_Tabulator_doCard (G : mz_G) (n : Nat) (f : mz_H) {w : Nat} {F T t : Nat → Nat} {u : tT} (P : Bool) (hE : f 1000000000001 = mz_d) (hT : Tb f u.2.1) (hX : TT f u) (hen : En f F T t w) (hln : P = true → Ln f F T t w) (hov : ∀ c, c < 4 → u.1 c + enN F T t w c 6 < 1000000) (hx : u.2.1 + (if P = true then 1 else 0) ≤ 100) :
    mz_Ct G mk_P y_Tabulator_doCard b_Tabulator_doCard 3 none (r_Tabulator_doCard 0 0) [.ref 16, .int (mk_b (P = true))] n f (fun v n' f' => v = none ∧ n' = n ∧ Tb f' (caS F T t w P u).2.1 ∧ TT f' (caS F T t w P u) ∧ FrT f f') := by
  have h16 := hT.1
  have hb4 : ∀ c, c < 4 → adK u.1 (fun c => enN F T t w c 6) 4 c < 1000000 := fun c hc => by
    unfold adK; rw [if_pos hc]; exact hov c hc
  cases P with
  | true =>
    have hx' : u.2.1 + 1 ≤ 100 := hx
    obtain ⟨g, k2, hg⟩ := hln rfl
    rw [mk_b_t (rfl : (true = true))]
    obtain ⟨cl, k1⟩ := hT.2.2.2.2.2.2.1
    refine mk_Ct 10 false [some (.ref 16), some (.int (nI 1)), none] (by decide) rfl (by decide) (Nat.le_of_ble_eq_true rfl) rfl ?_
    refine mz_go [12] 20 ?_
    simp only [mz_run, ev_0, ev_1, ev_2, ev_3, ev_4, ev_5, ev_6, ev_7, ev_8, ev_9, ev_10, ev_11, ev_12, ev_13, ev_14, ev_15, ev_16, ev_17, ev_18, ev_19, ev_20, ev_21, ev_22, ev_23, ev_24, ev_25, ev_26, ev_27, ev_28, ev_29, ev_30, ev_31, ev_32, ev_33, ev_34, ev_35, ev_36, ev_37, ev_38, ev_39, ev_40, ev_41, ev_42, ev_43, ev_44, ev_45, ev_46, ev_47, ev_48, ev_49, ev_50, ev_51, ev_52, ev_53, ev_54, ev_55, ev_56, ev_57, ev_58, ev_59, ev_60, ev_61, ev_62, ev_63, ev_64, ev_65, ev_66, ev_67, ev_68, ev_69, ev_70, ev_71, ev_72, ev_73, ev_74, ev_75, ev_76, ev_77, ev_78, ev_79, ev_80, ev_81, ev_82, ev_83, mk_lit, mk_fin, mk_cat, mk_fit, mk_nar, mk_fld, mk_cls, mk_ty, mk_isr, List.mem_cons, List.not_mem_nil, or_false, or_true, false_or, true_or, Nat.reduceEqDiff, Nat.reduceAdd, Nat.reduceSub, Nat.reduceLT, Nat.reduceLeDiff, reduceIte, if_true, if_false, List.getElem?_cons_zero, List.getElem?_cons_succ, List.set_cons_zero, List.set_cons_succ, List.length_cons, List.length_nil, mz_s1, mz_s2, mz_cl, true_and, and_true, false_and, and_false, List.append_nil, mk_b0, mk_b1, mk_b2, mk_bn, Value.int.injEq, Option.toList_some, Option.toList_none, List.cons_append, List.nil_append, Classical.not_not, Option.some.injEq, reduceCtorEq, ne_eq, not_true_eq_false, not_false_eq_true, false_implies, true_implies, d_Tabulator_doCard, j_Tabulator_doCard, nF_10, h16, show ¬ nI 1 = 0 by decide]
    refine mz_callV (by simp only [d_Tabulator_doCard, Nat.reduceAdd]) g_10_143 rfl (fun _ _ h => h) (c_Paper_print G mk_P n f hT.2.2.1 (show u.2.1 < 100 by omega) k1 k2 (by decide) (by decide)) hT.2.2.1.1 rfl rfl (by decide) (Nat.le_of_ble_eq_true rfl) rfl ?_; rintro v_ n_ f_ ⟨rfl, rfl, hF, hPa, gr, hgr, hgv⟩
    have hT2 := Tb_pr hT (show u.2.1 < 100 by omega) hF hPa
    have hF2 := FrT_pr (show u.2.1 < 100 by omega) hF
    have hX2 := TT_pr (r := fun p => prN (arN F T t (32 + p) w)) hX (by omega) hF hPa.1 hgr (fun p hp => (hgv p hp).trans (hg p hp))
    refine mz_go [17] 20 ?_
    simp only [mz_run, ev_0, ev_1, ev_2, ev_3, ev_4, ev_5, ev_6, ev_7, ev_8, ev_9, ev_10, ev_11, ev_12, ev_13, ev_14, ev_15, ev_16, ev_17, ev_18, ev_19, ev_20, ev_21, ev_22, ev_23, ev_24, ev_25, ev_26, ev_27, ev_28, ev_29, ev_30, ev_31, ev_32, ev_33, ev_34, ev_35, ev_36, ev_37, ev_38, ev_39, ev_40, ev_41, ev_42, ev_43, ev_44, ev_45, ev_46, ev_47, ev_48, ev_49, ev_50, ev_51, ev_52, ev_53, ev_54, ev_55, ev_56, ev_57, ev_58, ev_59, ev_60, ev_61, ev_62, ev_63, ev_64, ev_65, ev_66, ev_67, ev_68, ev_69, ev_70, ev_71, ev_72, ev_73, ev_74, ev_75, ev_76, ev_77, ev_78, ev_79, ev_80, ev_81, ev_82, ev_83, mk_lit, mk_fin, mk_cat, mk_fit, mk_nar, mk_fld, mk_cls, mk_ty, mk_isr, List.mem_cons, List.not_mem_nil, or_false, or_true, false_or, true_or, Nat.reduceEqDiff, Nat.reduceAdd, Nat.reduceSub, Nat.reduceLT, Nat.reduceLeDiff, reduceIte, if_true, if_false, List.getElem?_cons_zero, List.getElem?_cons_succ, List.set_cons_zero, List.set_cons_succ, List.length_cons, List.length_nil, mz_s1, mz_s2, mz_cl, true_and, and_true, false_and, and_false, List.append_nil, mk_b0, mk_b1, mk_b2, mk_bn, Value.int.injEq, Option.toList_some, Option.toList_none, List.cons_append, List.nil_append, Classical.not_not, Option.some.injEq, reduceCtorEq, ne_eq, not_true_eq_false, not_false_eq_true, false_implies, true_implies, d_Tabulator_doCard, j_Tabulator_doCard, nF_10]
    have := l_Tabulator_doCard G n_ f_ (w1 := nI 1) (cn := u.1) (E_T hF2 hE) hT2 (En_o hen (hF _ (by decide) (by omega))) (fun v n' f' => v = none ∧ n' = n_ ∧ Tb f' (caS F T t w true u).2.1 ∧ TT f' (caS F T t w true u) ∧ FrT f f') ⟨rfl, rfl, Tb_17 hT2 _, TT_17 hX2 hb4, FrT_u hF2 (by decide) _⟩ 4 0 (by omega)
    rw [adK_z, mz_ui hX2.1] at this
    exact this
  | false =>
    rw [mk_b_f (show ¬ (false = true) by decide)]
    refine mk_Ct 10 false [some (.ref 16), some (.int (nI 0)), none] (by decide) rfl (by decide) (Nat.le_of_ble_eq_true rfl) rfl ?_
    refine mz_go [17] 20 ?_
    simp only [mz_run, ev_0, ev_1, ev_2, ev_3, ev_4, ev_5, ev_6, ev_7, ev_8, ev_9, ev_10, ev_11, ev_12, ev_13, ev_14, ev_15, ev_16, ev_17, ev_18, ev_19, ev_20, ev_21, ev_22, ev_23, ev_24, ev_25, ev_26, ev_27, ev_28, ev_29, ev_30, ev_31, ev_32, ev_33, ev_34, ev_35, ev_36, ev_37, ev_38, ev_39, ev_40, ev_41, ev_42, ev_43, ev_44, ev_45, ev_46, ev_47, ev_48, ev_49, ev_50, ev_51, ev_52, ev_53, ev_54, ev_55, ev_56, ev_57, ev_58, ev_59, ev_60, ev_61, ev_62, ev_63, ev_64, ev_65, ev_66, ev_67, ev_68, ev_69, ev_70, ev_71, ev_72, ev_73, ev_74, ev_75, ev_76, ev_77, ev_78, ev_79, ev_80, ev_81, ev_82, ev_83, mk_lit, mk_fin, mk_cat, mk_fit, mk_nar, mk_fld, mk_cls, mk_ty, mk_isr, List.mem_cons, List.not_mem_nil, or_false, or_true, false_or, true_or, Nat.reduceEqDiff, Nat.reduceAdd, Nat.reduceSub, Nat.reduceLT, Nat.reduceLeDiff, reduceIte, if_true, if_false, List.getElem?_cons_zero, List.getElem?_cons_succ, List.set_cons_zero, List.set_cons_succ, List.length_cons, List.length_nil, mz_s1, mz_s2, mz_cl, true_and, and_true, false_and, and_false, List.append_nil, mk_b0, mk_b1, mk_b2, mk_bn, Value.int.injEq, Option.toList_some, Option.toList_none, List.cons_append, List.nil_append, Classical.not_not, Option.some.injEq, reduceCtorEq, ne_eq, not_true_eq_false, not_false_eq_true, false_implies, true_implies, d_Tabulator_doCard, j_Tabulator_doCard, nF_10, show (nI 0 = 0) = True from eq_true rfl]
    have := l_Tabulator_doCard G n f (w1 := nI 0) (cn := u.1) hE hT hen (fun v n' f' => v = none ∧ n' = n ∧ Tb f' (caS F T t w false u).2.1 ∧ TT f' (caS F T t w false u) ∧ FrT f f') ⟨rfl, rfl, Tb_17 hT _, TT_17 hX hb4, FrT_u FrT_rf (by decide) _⟩ 4 0 (by omega)
    rw [adK_z, mz_ui hX.1] at this
    exact this
theorem F56 {w : Nat} {F T L : Nat → Nat} (hok : BdOk w F T L) : ∀ k, k < w → F k < 56 := fun k hk => okF_lt (hok.2.1 k hk).1
theorem l_Tabulator_doTotals (G : mz_G) (n : Nat) (f : mz_H) {b w lv : Nat} {F T L : Nat → Nat} {u : tT} (hE : f 1000000000001 = mz_d) (hB : Bd f b w F T L) (hok : BdOk w F T L) (hb : 126 < b) (hlv : lv ≤ 4) (hbd : ∀ c, c < 4 → u.1 c < 1000000) (hcl : tcB F T L u.1 w lv = false) (hx : u.2.1 + tlN L lv ≤ 100) :
    ∀ m k H, k + m = lv → Tb H (toF F T L w k u).2.1 → TT H (toF F T L w k u) → FrT f H → (∀ z, 121 < z → H z = f z) → mz_X G mk_P 10 false b_Tabulator_doTotals 4 none (r_Tabulator_doTotals 0 0) (fun v n' f' => v = none ∧ n' = n ∧ Tb f' (toF F T L w lv u).2.1 ∧ TT f' (toF F T L w lv u) ∧ FrT f f' ∧ (∀ z, 121 < z → f' z = f z)) (fun _ _ _ => False) 2 [some (.ref 16), some (.ref b), some (.int (nI lv)), some (.int (nI k))] [] 0 0 n H := by
  intro m
  induction m with
  | zero =>
    intro k H hk hT hX hF hn
    have : k = lv := by omega
    subst this
    refine mz_go [2] 20 ?_
    simp only [mz_run, ev_0, ev_1, ev_2, ev_3, ev_4, ev_5, ev_6, ev_7, ev_8, ev_9, ev_10, ev_11, ev_12, ev_13, ev_14, ev_15, ev_16, ev_17, ev_18, ev_19, ev_20, ev_21, ev_22, ev_23, ev_24, ev_25, ev_26, ev_27, ev_28, ev_29, ev_30, ev_31, ev_32, ev_33, ev_34, ev_35, ev_36, ev_37, ev_38, ev_39, ev_40, ev_41, ev_42, ev_43, ev_44, ev_45, ev_46, ev_47, ev_48, ev_49, ev_50, ev_51, ev_52, ev_53, ev_54, ev_55, ev_56, ev_57, ev_58, ev_59, ev_60, ev_61, ev_62, ev_63, ev_64, ev_65, ev_66, ev_67, ev_68, ev_69, ev_70, ev_71, ev_72, ev_73, ev_74, ev_75, ev_76, ev_77, ev_78, ev_79, ev_80, ev_81, ev_82, ev_83, mk_lit, mk_fin, mk_cat, mk_fit, mk_nar, mk_fld, mk_cls, mk_ty, mk_isr, List.mem_cons, List.not_mem_nil, or_false, or_true, false_or, true_or, Nat.reduceEqDiff, Nat.reduceAdd, Nat.reduceSub, Nat.reduceLT, Nat.reduceLeDiff, reduceIte, if_true, if_false, List.getElem?_cons_zero, List.getElem?_cons_succ, List.set_cons_zero, List.set_cons_succ, List.length_cons, List.length_nil, mz_s1, mz_s2, mz_cl, true_and, and_true, false_and, and_false, List.append_nil, mk_b0, mk_b1, mk_b2, mk_bn, Value.int.injEq, Option.toList_some, Option.toList_none, List.cons_append, List.nil_append, Classical.not_not, Option.some.injEq, reduceCtorEq, ne_eq, not_true_eq_false, not_false_eq_true, false_implies, true_implies, d_Tabulator_doTotals, j_Tabulator_doTotals, nF_10, nI_leI (show k < 2 ^ 31 by omega) (show k < 2 ^ 31 by omega), Nat.le_refl]
    exact ⟨hT, hX, hF, hn⟩
  | succ m ih =>
    intro k H hk hT hX hF hn
    have hBH := Bd_T hF hB hb
    have hEH := E_T hF hE
    have h16 := hT.1
    obtain ⟨cl, k1⟩ := hT.2.2.2.2.1
    obtain ⟨g, k2⟩ := hT.2.2.2.2.2.1
    have hmono := tlN_mono L (k + 1) m
    rw [show k + 1 + m = lv by omega] at hmono
    have hln := toF_ln (F := F) (T := T) (L := L) (w := w) (t := u) k
    have hvb := toF_lt (F := F) (T := T) (L := L) (w := w) hbd k
    have hcx : clX F T L (toF F T L w k u).1 k w 24 = false := by
      rw [clX_c (F56 hok) (cm := u.1) (fun c hc e => by rw [toF_cn hc, if_neg (by omega)])]
      cases h : clX F T L u.1 k w 24 with
      | false => rfl
      | true =>
        have := (tcB_iff lv).mpr ⟨k, by omega, h⟩
        rw [hcl] at this; cases this
    have enext : toF F T L w (k + 1) u = if hcB L k = true then (clr L k (toF F T L w k u).1, (toF F T L w k u).2.1 + 1, va_up (toF F T L w k u).2.2 (toF F T L w k u).2.1 (fun p => prN (arX F T L (toF F T L w k u).1 k (32 + p) w))) else toF F T L w k u := rfl
    have ihk := ih (k + 1)
    rw [enext] at ihk
    generalize toF F T L w k u = v at hT hX hln hvb hcx enext ihk
    have k7 := hX.1
    refine mz_go [9] 20 ?_
    simp only [mz_run, ev_0, ev_1, ev_2, ev_3, ev_4, ev_5, ev_6, ev_7, ev_8, ev_9, ev_10, ev_11, ev_12, ev_13, ev_14, ev_15, ev_16, ev_17, ev_18, ev_19, ev_20, ev_21, ev_22, ev_23, ev_24, ev_25, ev_26, ev_27, ev_28, ev_29, ev_30, ev_31, ev_32, ev_33, ev_34, ev_35, ev_36, ev_37, ev_38, ev_39, ev_40, ev_41, ev_42, ev_43, ev_44, ev_45, ev_46, ev_47, ev_48, ev_49, ev_50, ev_51, ev_52, ev_53, ev_54, ev_55, ev_56, ev_57, ev_58, ev_59, ev_60, ev_61, ev_62, ev_63, ev_64, ev_65, ev_66, ev_67, ev_68, ev_69, ev_70, ev_71, ev_72, ev_73, ev_74, ev_75, ev_76, ev_77, ev_78, ev_79, ev_80, ev_81, ev_82, ev_83, mk_lit, mk_fin, mk_cat, mk_fit, mk_nar, mk_fld, mk_cls, mk_ty, mk_isr, List.mem_cons, List.not_mem_nil, or_false, or_true, false_or, true_or, Nat.reduceEqDiff, Nat.reduceAdd, Nat.reduceSub, Nat.reduceLT, Nat.reduceLeDiff, reduceIte, if_true, if_false, List.getElem?_cons_zero, List.getElem?_cons_succ, List.set_cons_zero, List.set_cons_succ, List.length_cons, List.length_nil, mz_s1, mz_s2, mz_cl, true_and, and_true, false_and, and_false, List.append_nil, mk_b0, mk_b1, mk_b2, mk_bn, Value.int.injEq, Option.toList_some, Option.toList_none, List.cons_append, List.nil_append, Classical.not_not, Option.some.injEq, reduceCtorEq, ne_eq, not_true_eq_false, not_false_eq_true, false_implies, true_implies, d_Tabulator_doTotals, j_Tabulator_doTotals, nF_10, nI_leI (show lv < 2 ^ 31 by omega) (show k < 2 ^ 31 by omega), show ¬ lv ≤ k by omega]
    refine mz_callV (by simp only [d_Tabulator_doTotals, Nat.reduceAdd]) g_10_140 rfl (fun _ _ h => h) (c_Board_hasCounterOf G mk_P n H hBH hok (show k < 2 ^ 31 by omega)) hBH.1 rfl rfl (by decide) (Nat.le_of_ble_eq_true rfl) rfl ?_; intro v_ n_ f_ h_; obtain ⟨rfl, hn_, hf_⟩ := h_; replace hn_ := hn_.symm; replace hf_ := hf_.symm; subst hn_; subst hf_
    by_cases hc : hcB L k = true
    · have e : tlN L (k + 1) = tlN L k + 1 := by
        show tlN L k + _ = _
        rw [if_pos hc]
      rw [if_pos hc] at ihk
      refine mz_go [25] 20 ?_
      simp only [mz_run, ev_0, ev_1, ev_2, ev_3, ev_4, ev_5, ev_6, ev_7, ev_8, ev_9, ev_10, ev_11, ev_12, ev_13, ev_14, ev_15, ev_16, ev_17, ev_18, ev_19, ev_20, ev_21, ev_22, ev_23, ev_24, ev_25, ev_26, ev_27, ev_28, ev_29, ev_30, ev_31, ev_32, ev_33, ev_34, ev_35, ev_36, ev_37, ev_38, ev_39, ev_40, ev_41, ev_42, ev_43, ev_44, ev_45, ev_46, ev_47, ev_48, ev_49, ev_50, ev_51, ev_52, ev_53, ev_54, ev_55, ev_56, ev_57, ev_58, ev_59, ev_60, ev_61, ev_62, ev_63, ev_64, ev_65, ev_66, ev_67, ev_68, ev_69, ev_70, ev_71, ev_72, ev_73, ev_74, ev_75, ev_76, ev_77, ev_78, ev_79, ev_80, ev_81, ev_82, ev_83, mk_lit, mk_fin, mk_cat, mk_fit, mk_nar, mk_fld, mk_cls, mk_ty, mk_isr, List.mem_cons, List.not_mem_nil, or_false, or_true, false_or, true_or, Nat.reduceEqDiff, Nat.reduceAdd, Nat.reduceSub, Nat.reduceLT, Nat.reduceLeDiff, reduceIte, if_true, if_false, List.getElem?_cons_zero, List.getElem?_cons_succ, List.set_cons_zero, List.set_cons_succ, List.length_cons, List.length_nil, mz_s1, mz_s2, mz_cl, true_and, and_true, false_and, and_false, List.append_nil, mk_b0, mk_b1, mk_b2, mk_bn, Value.int.injEq, Option.toList_some, Option.toList_none, List.cons_append, List.nil_append, Classical.not_not, Option.some.injEq, reduceCtorEq, ne_eq, not_true_eq_false, not_false_eq_true, false_implies, true_implies, d_Tabulator_doTotals, j_Tabulator_doTotals, nF_10, hc, h16]
      refine mz_callV (by simp only [d_Tabulator_doTotals, Nat.reduceAdd]) g_10_116 rfl (fun _ _ h => h) (c_Board_bringFromCounters G n H (lv := k) hEH hBH hok k7 k1 k2 (by decide) (by decide) (by decide) (by omega) (by omega) (by decide) (show k < 2 ^ 31 by omega)) hBH.1 rfl rfl (by decide) (Nat.le_of_ble_eq_true rfl) rfl ?_; intro v_ n_ f_ h_; obtain ⟨rfl, hn_, hf_⟩ := h_; replace hn_ := hn_.symm; replace hf_ := hf_.symm; subst hn_; subst hf_
      obtain ⟨R, hR⟩ : ∃ R, R = brX F T L (fun j => nI (v.1 j)) k 32 24 w (cpy (fun _ => -1) g 24, nI 0) := ⟨_, rfl⟩
      have h24 := (brX_24 (g := g) (lv := k) (T := T) hok hvb).2 hcx
      rw [← hR] at h24 ⊢
      have hT2 := Tb_120 hT R.1 R.2
      have hF2 : FrT f _ := FrT_jH (j := 120) (ja := 121) (q := 32) (N := 24) (g := R.1) (cl := R.2) hF (by decide) (by decide)
      have hn2 : ∀ z, 121 < z → jH H 120 121 32 24 R.1 R.2 z = f z := fun z hz => by unfold jH; rw [mz_u_n (by omega), mz_u_n (by omega)]; exact hn z hz
      have hX2 : TT (jH H 120 121 32 24 R.1 R.2) v := TT_eq hX (fun q hq => by unfold jH; rw [mz_u_n (by omega), mz_u_n (by omega)])
      have k22 : jH H 120 121 32 24 R.1 R.2 121 = aI 24 R.1 := by unfold jH; rw [mz_u_n (by decide)]; exact mz_u_s _ _ _
      generalize jH H 120 121 32 24 R.1 R.2 = H2 at hT2 hF2 hn2 hX2 k22 ⊢
      obtain ⟨cl2, k12⟩ := hT2.2.2.2.2.1
      have h162 := hT2.1
      refine mz_go [36] 20 ?_
      simp only [mz_run, ev_0, ev_1, ev_2, ev_3, ev_4, ev_5, ev_6, ev_7, ev_8, ev_9, ev_10, ev_11, ev_12, ev_13, ev_14, ev_15, ev_16, ev_17, ev_18, ev_19, ev_20, ev_21, ev_22, ev_23, ev_24, ev_25, ev_26, ev_27, ev_28, ev_29, ev_30, ev_31, ev_32, ev_33, ev_34, ev_35, ev_36, ev_37, ev_38, ev_39, ev_40, ev_41, ev_42, ev_43, ev_44, ev_45, ev_46, ev_47, ev_48, ev_49, ev_50, ev_51, ev_52, ev_53, ev_54, ev_55, ev_56, ev_57, ev_58, ev_59, ev_60, ev_61, ev_62, ev_63, ev_64, ev_65, ev_66, ev_67, ev_68, ev_69, ev_70, ev_71, ev_72, ev_73, ev_74, ev_75, ev_76, ev_77, ev_78, ev_79, ev_80, ev_81, ev_82, ev_83, mk_lit, mk_fin, mk_cat, mk_fit, mk_nar, mk_fld, mk_cls, mk_ty, mk_isr, List.mem_cons, List.not_mem_nil, or_false, or_true, false_or, true_or, Nat.reduceEqDiff, Nat.reduceAdd, Nat.reduceSub, Nat.reduceLT, Nat.reduceLeDiff, reduceIte, if_true, if_false, List.getElem?_cons_zero, List.getElem?_cons_succ, List.set_cons_zero, List.set_cons_succ, List.length_cons, List.length_nil, mz_s1, mz_s2, mz_cl, true_and, and_true, false_and, and_false, List.append_nil, mk_b0, mk_b1, mk_b2, mk_bn, Value.int.injEq, Option.toList_some, Option.toList_none, List.cons_append, List.nil_append, Classical.not_not, Option.some.injEq, reduceCtorEq, ne_eq, not_true_eq_false, not_false_eq_true, false_implies, true_implies, d_Tabulator_doTotals, j_Tabulator_doTotals, nF_10, h162]
      refine mz_callV (by simp only [d_Tabulator_doTotals, Nat.reduceAdd]) g_10_143 rfl (fun _ _ h => h) (c_Paper_print G mk_P n H2 hT2.2.2.1 (show v.2.1 < 100 by omega) k12 k22 (by decide) (by decide)) hT2.2.2.1.1 rfl rfl (by decide) (Nat.le_of_ble_eq_true rfl) rfl ?_; rintro v_ n_ f_ ⟨rfl, rfl, hFp, hPa, gr, hgr, hgv⟩
      have hT3 := Tb_pr hT2 (show v.2.1 < 100 by omega) hFp hPa
      have hF3 := FrT_tr hF2 (FrT_pr (show v.2.1 < 100 by omega) hFp)
      have hn3 : ∀ z, 121 < z → f_ z = f z := fun z hz => (hFp z (by omega) (by omega)).trans (hn2 z hz)
      have hX3 := TT_pr (r := fun p => prN (arX F T L v.1 k (32 + p) w)) hX2 (by omega) hFp hPa.1 hgr (fun p hp => by
        rw [hgv p hp, h24 p hp]
        exact prN_c (arX_v w) (clX_not hcx hp))
      have hB3 := Bd_T hF3 hB hb
      refine mz_go [42] 20 ?_
      simp only [mz_run, ev_0, ev_1, ev_2, ev_3, ev_4, ev_5, ev_6, ev_7, ev_8, ev_9, ev_10, ev_11, ev_12, ev_13, ev_14, ev_15, ev_16, ev_17, ev_18, ev_19, ev_20, ev_21, ev_22, ev_23, ev_24, ev_25, ev_26, ev_27, ev_28, ev_29, ev_30, ev_31, ev_32, ev_33, ev_34, ev_35, ev_36, ev_37, ev_38, ev_39, ev_40, ev_41, ev_42, ev_43, ev_44, ev_45, ev_46, ev_47, ev_48, ev_49, ev_50, ev_51, ev_52, ev_53, ev_54, ev_55, ev_56, ev_57, ev_58, ev_59, ev_60, ev_61, ev_62, ev_63, ev_64, ev_65, ev_66, ev_67, ev_68, ev_69, ev_70, ev_71, ev_72, ev_73, ev_74, ev_75, ev_76, ev_77, ev_78, ev_79, ev_80, ev_81, ev_82, ev_83, mk_lit, mk_fin, mk_cat, mk_fit, mk_nar, mk_fld, mk_cls, mk_ty, mk_isr, List.mem_cons, List.not_mem_nil, or_false, or_true, false_or, true_or, Nat.reduceEqDiff, Nat.reduceAdd, Nat.reduceSub, Nat.reduceLT, Nat.reduceLeDiff, reduceIte, if_true, if_false, List.getElem?_cons_zero, List.getElem?_cons_succ, List.set_cons_zero, List.set_cons_succ, List.length_cons, List.length_nil, mz_s1, mz_s2, mz_cl, true_and, and_true, false_and, and_false, List.append_nil, mk_b0, mk_b1, mk_b2, mk_bn, Value.int.injEq, Option.toList_some, Option.toList_none, List.cons_append, List.nil_append, Classical.not_not, Option.some.injEq, reduceCtorEq, ne_eq, not_true_eq_false, not_false_eq_true, false_implies, true_implies, d_Tabulator_doTotals, j_Tabulator_doTotals, nF_10]
      refine mz_callV (by simp only [d_Tabulator_doTotals, Nat.reduceAdd]) g_10_147 rfl (fun _ _ h => h) (c_Tabulator_clearCounters G mk_P n_ f_ hT3 hX3.1 hB3 hok hb (show k < 2 ^ 31 by omega)) hT3.1 rfl rfl (by decide) (Nat.le_of_ble_eq_true rfl) rfl ?_; intro v_ n_ f_ h_; obtain ⟨rfl, hn_, hf_⟩ := h_; replace hn_ := hn_.symm; replace hf_ := hf_.symm; subst hn_; subst hf_
      refine mz_go [2] 20 ?_
      simp only [mz_run, ev_0, ev_1, ev_2, ev_3, ev_4, ev_5, ev_6, ev_7, ev_8, ev_9, ev_10, ev_11, ev_12, ev_13, ev_14, ev_15, ev_16, ev_17, ev_18, ev_19, ev_20, ev_21, ev_22, ev_23, ev_24, ev_25, ev_26, ev_27, ev_28, ev_29, ev_30, ev_31, ev_32, ev_33, ev_34, ev_35, ev_36, ev_37, ev_38, ev_39, ev_40, ev_41, ev_42, ev_43, ev_44, ev_45, ev_46, ev_47, ev_48, ev_49, ev_50, ev_51, ev_52, ev_53, ev_54, ev_55, ev_56, ev_57, ev_58, ev_59, ev_60, ev_61, ev_62, ev_63, ev_64, ev_65, ev_66, ev_67, ev_68, ev_69, ev_70, ev_71, ev_72, ev_73, ev_74, ev_75, ev_76, ev_77, ev_78, ev_79, ev_80, ev_81, ev_82, ev_83, mk_lit, mk_fin, mk_cat, mk_fit, mk_nar, mk_fld, mk_cls, mk_ty, mk_isr, List.mem_cons, List.not_mem_nil, or_false, or_true, false_or, true_or, Nat.reduceEqDiff, Nat.reduceAdd, Nat.reduceSub, Nat.reduceLT, Nat.reduceLeDiff, reduceIte, if_true, if_false, List.getElem?_cons_zero, List.getElem?_cons_succ, List.set_cons_zero, List.set_cons_succ, List.length_cons, List.length_nil, mz_s1, mz_s2, mz_cl, true_and, and_true, false_and, and_false, List.append_nil, mk_b0, mk_b1, mk_b2, mk_bn, Value.int.injEq, Option.toList_some, Option.toList_none, List.cons_append, List.nil_append, Classical.not_not, Option.some.injEq, reduceCtorEq, ne_eq, not_true_eq_false, not_false_eq_true, false_implies, true_implies, d_Tabulator_doTotals, j_Tabulator_doTotals, nF_10, nI_add]
      refine ihk _ (by omega) (Tb_17 hT3 _) (TT_17 hX3 (fun c hc4 => ?_)) (FrT_u hF3 (by decide) _) (fun z hz => (mz_u_n (by omega)).trans (hn3 z hz))
      show (if c < 4 ∧ L c = k then 0 else v.1 c) < 1000000
      have := hvb c hc4
      split <;> omega
    · rw [if_neg hc] at ihk
      refine mz_go [2] 20 ?_
      simp only [mz_run, ev_0, ev_1, ev_2, ev_3, ev_4, ev_5, ev_6, ev_7, ev_8, ev_9, ev_10, ev_11, ev_12, ev_13, ev_14, ev_15, ev_16, ev_17, ev_18, ev_19, ev_20, ev_21, ev_22, ev_23, ev_24, ev_25, ev_26, ev_27, ev_28, ev_29, ev_30, ev_31, ev_32, ev_33, ev_34, ev_35, ev_36, ev_37, ev_38, ev_39, ev_40, ev_41, ev_42, ev_43, ev_44, ev_45, ev_46, ev_47, ev_48, ev_49, ev_50, ev_51, ev_52, ev_53, ev_54, ev_55, ev_56, ev_57, ev_58, ev_59, ev_60, ev_61, ev_62, ev_63, ev_64, ev_65, ev_66, ev_67, ev_68, ev_69, ev_70, ev_71, ev_72, ev_73, ev_74, ev_75, ev_76, ev_77, ev_78, ev_79, ev_80, ev_81, ev_82, ev_83, mk_lit, mk_fin, mk_cat, mk_fit, mk_nar, mk_fld, mk_cls, mk_ty, mk_isr, List.mem_cons, List.not_mem_nil, or_false, or_true, false_or, true_or, Nat.reduceEqDiff, Nat.reduceAdd, Nat.reduceSub, Nat.reduceLT, Nat.reduceLeDiff, reduceIte, if_true, if_false, List.getElem?_cons_zero, List.getElem?_cons_succ, List.set_cons_zero, List.set_cons_succ, List.length_cons, List.length_nil, mz_s1, mz_s2, mz_cl, true_and, and_true, false_and, and_false, List.append_nil, mk_b0, mk_b1, mk_b2, mk_bn, Value.int.injEq, Option.toList_some, Option.toList_none, List.cons_append, List.nil_append, Classical.not_not, Option.some.injEq, reduceCtorEq, ne_eq, not_true_eq_false, not_false_eq_true, false_implies, true_implies, d_Tabulator_doTotals, j_Tabulator_doTotals, nF_10, hc, nI_add]
      exact ihk _ (by omega) hT hX hF hn
theorem c_Tabulator_doTotals (G : mz_G) (n : Nat) (f : mz_H) {b w lv : Nat} {F T L : Nat → Nat} {u : tT} (hE : f 1000000000001 = mz_d) (hT : Tb f u.2.1) (hX : TT f u) (hB : Bd f b w F T L) (hok : BdOk w F T L) (hb : 126 < b) (hlv : lv ≤ 4) (hcl : tcB F T L u.1 w lv = false) (hx : u.2.1 + tlN L lv ≤ 100) :
    mz_Ct G mk_P y_Tabulator_doTotals b_Tabulator_doTotals 4 none (r_Tabulator_doTotals 0 0) [.ref 16, .ref b, .int (nI lv)] n f (fun v n' f' => v = none ∧ n' = n ∧ Tb f' (toF F T L w lv u).2.1 ∧ TT f' (toF F T L w lv u) ∧ FrT f f' ∧ (∀ z, 121 < z → f' z = f z)) := by
  refine mk_Ct 10 false [some (.ref 16), some (.ref b), some (.int (nI lv)), none] (by decide) rfl (by decide) (Nat.le_of_ble_eq_true rfl) rfl ?_
  refine mz_go [2] 20 ?_
  simp only [mz_run, ev_0, ev_1, ev_2, ev_3, ev_4, ev_5, ev_6, ev_7, ev_8, ev_9, ev_10, ev_11, ev_12, ev_13, ev_14, ev_15, ev_16, ev_17, ev_18, ev_19, ev_20, ev_21, ev_22, ev_23, ev_24, ev_25, ev_26, ev_27, ev_28, ev_29, ev_30, ev_31, ev_32, ev_33, ev_34, ev_35, ev_36, ev_37, ev_38, ev_39, ev_40, ev_41, ev_42, ev_43, ev_44, ev_45, ev_46, ev_47, ev_48, ev_49, ev_50, ev_51, ev_52, ev_53, ev_54, ev_55, ev_56, ev_57, ev_58, ev_59, ev_60, ev_61, ev_62, ev_63, ev_64, ev_65, ev_66, ev_67, ev_68, ev_69, ev_70, ev_71, ev_72, ev_73, ev_74, ev_75, ev_76, ev_77, ev_78, ev_79, ev_80, ev_81, ev_82, ev_83, mk_lit, mk_fin, mk_cat, mk_fit, mk_nar, mk_fld, mk_cls, mk_ty, mk_isr, List.mem_cons, List.not_mem_nil, or_false, or_true, false_or, true_or, Nat.reduceEqDiff, Nat.reduceAdd, Nat.reduceSub, Nat.reduceLT, Nat.reduceLeDiff, reduceIte, if_true, if_false, List.getElem?_cons_zero, List.getElem?_cons_succ, List.set_cons_zero, List.set_cons_succ, List.length_cons, List.length_nil, mz_s1, mz_s2, mz_cl, true_and, and_true, false_and, and_false, List.append_nil, mk_b0, mk_b1, mk_b2, mk_bn, Value.int.injEq, Option.toList_some, Option.toList_none, List.cons_append, List.nil_append, Classical.not_not, Option.some.injEq, reduceCtorEq, ne_eq, not_true_eq_false, not_false_eq_true, false_implies, true_implies, d_Tabulator_doTotals, j_Tabulator_doTotals, nF_10]
  exact l_Tabulator_doTotals G n f hE hB hok hb hlv hX.2.2.2.2 hcl hx lv 0 f (by omega) hT hX FrT_rf (fun _ _ => rfl)
theorem l_Tabulator_totalsClash (G : mz_G) (n : Nat) (f : mz_H) {b w lv : Nat} {F T L : Nat → Nat} {u : tT} (hE : f 1000000000001 = mz_d) (hB : Bd f b w F T L) (hok : BdOk w F T L) (hb : 126 < b) (hlv : lv ≤ 4) (R : Bool) (hR : R = tcB F T L u.1 w lv) :
    ∀ m k H, k + m = lv → tcB F T L u.1 w k = false → Tb H u.2.1 → TT H u → FrT f H → (∀ z, 121 < z → H z = f z) → mz_X G mk_P 10 false b_Tabulator_totalsClash 4 (some .boolean) (r_Tabulator_totalsClash 0 0) (fun v n' f' => v = some (.int (mk_b (R = true))) ∧ n' = n ∧ Tb f' u.2.1 ∧ TT f' u ∧ FrT f f' ∧ (∀ z, 121 < z → f' z = f z)) (fun _ _ _ => False) 2 [some (.ref 16), some (.ref b), some (.int (nI lv)), some (.int (nI k))] [] 0 0 n H := by
  intro m
  induction m with
  | zero =>
    intro k H hk hc hT hX hF hn
    have : k = lv := by omega
    subst this
    rw [hc] at hR
    subst hR
    refine mz_go [2] 20 ?_
    simp only [mz_run, ev_0, ev_1, ev_2, ev_3, ev_4, ev_5, ev_6, ev_7, ev_8, ev_9, ev_10, ev_11, ev_12, ev_13, ev_14, ev_15, ev_16, ev_17, ev_18, ev_19, ev_20, ev_21, ev_22, ev_23, ev_24, ev_25, ev_26, ev_27, ev_28, ev_29, ev_30, ev_31, ev_32, ev_33, ev_34, ev_35, ev_36, ev_37, ev_38, ev_39, ev_40, ev_41, ev_42, ev_43, ev_44, ev_45, ev_46, ev_47, ev_48, ev_49, ev_50, ev_51, ev_52, ev_53, ev_54, ev_55, ev_56, ev_57, ev_58, ev_59, ev_60, ev_61, ev_62, ev_63, ev_64, ev_65, ev_66, ev_67, ev_68, ev_69, ev_70, ev_71, ev_72, ev_73, ev_74, ev_75, ev_76, ev_77, ev_78, ev_79, ev_80, ev_81, ev_82, ev_83, mk_lit, mk_fin, mk_cat, mk_fit, mk_nar, mk_fld, mk_cls, mk_ty, mk_isr, List.mem_cons, List.not_mem_nil, or_false, or_true, false_or, true_or, Nat.reduceEqDiff, Nat.reduceAdd, Nat.reduceSub, Nat.reduceLT, Nat.reduceLeDiff, reduceIte, if_true, if_false, List.getElem?_cons_zero, List.getElem?_cons_succ, List.set_cons_zero, List.set_cons_succ, List.length_cons, List.length_nil, mz_s1, mz_s2, mz_cl, true_and, and_true, false_and, and_false, List.append_nil, mk_b0, mk_b1, mk_b2, mk_bn, Value.int.injEq, Option.toList_some, Option.toList_none, List.cons_append, List.nil_append, Classical.not_not, Option.some.injEq, reduceCtorEq, ne_eq, not_true_eq_false, not_false_eq_true, false_implies, true_implies, d_Tabulator_totalsClash, j_Tabulator_totalsClash, nF_10, nI_leI (show k < 2 ^ 31 by omega) (show k < 2 ^ 31 by omega), Nat.le_refl, show (false = true) = False from by simp]
    exact ⟨hT, hX, hF, hn⟩
  | succ m ih =>
    intro k H hk hc hT hX hF hn
    have hBH := Bd_T hF hB hb
    have hEH := E_T hF hE
    have h16 := hT.1
    have k7 := hX.1
    obtain ⟨cl, k1⟩ := hT.2.2.2.2.1
    obtain ⟨g, k2⟩ := hT.2.2.2.2.2.1
    refine mz_go [17] 20 ?_
    simp only [mz_run, ev_0, ev_1, ev_2, ev_3, ev_4, ev_5, ev_6, ev_7, ev_8, ev_9, ev_10, ev_11, ev_12, ev_13, ev_14, ev_15, ev_16, ev_17, ev_18, ev_19, ev_20, ev_21, ev_22, ev_23, ev_24, ev_25, ev_26, ev_27, ev_28, ev_29, ev_30, ev_31, ev_32, ev_33, ev_34, ev_35, ev_36, ev_37, ev_38, ev_39, ev_40, ev_41, ev_42, ev_43, ev_44, ev_45, ev_46, ev_47, ev_48, ev_49, ev_50, ev_51, ev_52, ev_53, ev_54, ev_55, ev_56, ev_57, ev_58, ev_59, ev_60, ev_61, ev_62, ev_63, ev_64, ev_65, ev_66, ev_67, ev_68, ev_69, ev_70, ev_71, ev_72, ev_73, ev_74, ev_75, ev_76, ev_77, ev_78, ev_79, ev_80, ev_81, ev_82, ev_83, mk_lit, mk_fin, mk_cat, mk_fit, mk_nar, mk_fld, mk_cls, mk_ty, mk_isr, List.mem_cons, List.not_mem_nil, or_false, or_true, false_or, true_or, Nat.reduceEqDiff, Nat.reduceAdd, Nat.reduceSub, Nat.reduceLT, Nat.reduceLeDiff, reduceIte, if_true, if_false, List.getElem?_cons_zero, List.getElem?_cons_succ, List.set_cons_zero, List.set_cons_succ, List.length_cons, List.length_nil, mz_s1, mz_s2, mz_cl, true_and, and_true, false_and, and_false, List.append_nil, mk_b0, mk_b1, mk_b2, mk_bn, Value.int.injEq, Option.toList_some, Option.toList_none, List.cons_append, List.nil_append, Classical.not_not, Option.some.injEq, reduceCtorEq, ne_eq, not_true_eq_false, not_false_eq_true, false_implies, true_implies, d_Tabulator_totalsClash, j_Tabulator_totalsClash, nF_10, nI_leI (show lv < 2 ^ 31 by omega) (show k < 2 ^ 31 by omega), show ¬ lv ≤ k by omega, h16]
    refine mz_callV (by simp only [d_Tabulator_totalsClash, Nat.reduceAdd]) g_10_116 rfl (fun _ _ h => h) (c_Board_bringFromCounters G n H (lv := k) hEH hBH hok k7 k1 k2 (by decide) (by decide) (by decide) (by omega) (by omega) (by decide) (show k < 2 ^ 31 by omega)) hBH.1 rfl rfl (by decide) (Nat.le_of_ble_eq_true rfl) rfl ?_; intro v_ n_ f_ h_; obtain ⟨rfl, hn_, hf_⟩ := h_; replace hn_ := hn_.symm; replace hf_ := hf_.symm; subst hn_; subst hf_
    obtain ⟨Q, hQ⟩ : ∃ Q, Q = brX F T L (fun j => nI (u.1 j)) k 32 24 w (cpy (fun _ => -1) g 24, nI 0) := ⟨_, rfl⟩
    have h24 := (brX_24 (g := g) (lv := k) (T := T) hok hX.2.2.2.2).1
    rw [← hQ] at h24 ⊢
    have hT2 := Tb_120 hT Q.1 Q.2
    have hF2 : FrT f _ := FrT_jH (j := 120) (ja := 121) (q := 32) (N := 24) (g := Q.1) (cl := Q.2) hF (by decide) (by decide)
    have hn2 : ∀ z, 121 < z → jH H 120 121 32 24 Q.1 Q.2 z = f z := fun z hz => by unfold jH; rw [mz_u_n (by omega), mz_u_n (by omega)]; exact hn z hz
    have hX2 : TT (jH H 120 121 32 24 Q.1 Q.2) u := TT_eq hX (fun q hq => by unfold jH; rw [mz_u_n (by omega), mz_u_n (by omega)])
    have k12 : jH H 120 121 32 24 Q.1 Q.2 120 = .inr (6, [.int (nI 32), .ref 121, .int Q.2]) := mz_u_s _ _ _
    generalize jH H 120 121 32 24 Q.1 Q.2 = H2 at hT2 hF2 hn2 hX2 k12 ⊢
    rw [h24] at k12
    have h162 := hT2.1
    cases hcx : clX F T L u.1 k w 24 with
    | false =>
      rw [hcx] at k12
      refine mz_go [2] 20 ?_
      simp only [mz_run, ev_0, ev_1, ev_2, ev_3, ev_4, ev_5, ev_6, ev_7, ev_8, ev_9, ev_10, ev_11, ev_12, ev_13, ev_14, ev_15, ev_16, ev_17, ev_18, ev_19, ev_20, ev_21, ev_22, ev_23, ev_24, ev_25, ev_26, ev_27, ev_28, ev_29, ev_30, ev_31, ev_32, ev_33, ev_34, ev_35, ev_36, ev_37, ev_38, ev_39, ev_40, ev_41, ev_42, ev_43, ev_44, ev_45, ev_46, ev_47, ev_48, ev_49, ev_50, ev_51, ev_52, ev_53, ev_54, ev_55, ev_56, ev_57, ev_58, ev_59, ev_60, ev_61, ev_62, ev_63, ev_64, ev_65, ev_66, ev_67, ev_68, ev_69, ev_70, ev_71, ev_72, ev_73, ev_74, ev_75, ev_76, ev_77, ev_78, ev_79, ev_80, ev_81, ev_82, ev_83, mk_lit, mk_fin, mk_cat, mk_fit, mk_nar, mk_fld, mk_cls, mk_ty, mk_isr, List.mem_cons, List.not_mem_nil, or_false, or_true, false_or, true_or, Nat.reduceEqDiff, Nat.reduceAdd, Nat.reduceSub, Nat.reduceLT, Nat.reduceLeDiff, reduceIte, if_true, if_false, List.getElem?_cons_zero, List.getElem?_cons_succ, List.set_cons_zero, List.set_cons_succ, List.length_cons, List.length_nil, mz_s1, mz_s2, mz_cl, true_and, and_true, false_and, and_false, List.append_nil, mk_b0, mk_b1, mk_b2, mk_bn, Value.int.injEq, Option.toList_some, Option.toList_none, List.cons_append, List.nil_append, Classical.not_not, Option.some.injEq, reduceCtorEq, ne_eq, not_true_eq_false, not_false_eq_true, false_implies, true_implies, d_Tabulator_totalsClash, j_Tabulator_totalsClash, nF_10, h162, k12, nI_add, show (false = true) = False from by simp]
      exact ih (k + 1) _ (by omega) (by unfold tcB; rw [hc, hcx]; rfl) hT2 hX2 hF2 hn2
    | true =>
      rw [hcx] at k12
      rw [(tcB_iff lv).mpr ⟨k, by omega, hcx⟩] at hR
      subst hR
      refine mz_go [2] 20 ?_
      simp only [mz_run, ev_0, ev_1, ev_2, ev_3, ev_4, ev_5, ev_6, ev_7, ev_8, ev_9, ev_10, ev_11, ev_12, ev_13, ev_14, ev_15, ev_16, ev_17, ev_18, ev_19, ev_20, ev_21, ev_22, ev_23, ev_24, ev_25, ev_26, ev_27, ev_28, ev_29, ev_30, ev_31, ev_32, ev_33, ev_34, ev_35, ev_36, ev_37, ev_38, ev_39, ev_40, ev_41, ev_42, ev_43, ev_44, ev_45, ev_46, ev_47, ev_48, ev_49, ev_50, ev_51, ev_52, ev_53, ev_54, ev_55, ev_56, ev_57, ev_58, ev_59, ev_60, ev_61, ev_62, ev_63, ev_64, ev_65, ev_66, ev_67, ev_68, ev_69, ev_70, ev_71, ev_72, ev_73, ev_74, ev_75, ev_76, ev_77, ev_78, ev_79, ev_80, ev_81, ev_82, ev_83, mk_lit, mk_fin, mk_cat, mk_fit, mk_nar, mk_fld, mk_cls, mk_ty, mk_isr, List.mem_cons, List.not_mem_nil, or_false, or_true, false_or, true_or, Nat.reduceEqDiff, Nat.reduceAdd, Nat.reduceSub, Nat.reduceLT, Nat.reduceLeDiff, reduceIte, if_true, if_false, List.getElem?_cons_zero, List.getElem?_cons_succ, List.set_cons_zero, List.set_cons_succ, List.length_cons, List.length_nil, mz_s1, mz_s2, mz_cl, true_and, and_true, false_and, and_false, List.append_nil, mk_b0, mk_b1, mk_b2, mk_bn, Value.int.injEq, Option.toList_some, Option.toList_none, List.cons_append, List.nil_append, Classical.not_not, Option.some.injEq, reduceCtorEq, ne_eq, not_true_eq_false, not_false_eq_true, false_implies, true_implies, d_Tabulator_totalsClash, j_Tabulator_totalsClash, nF_10, h162, k12, nI_add, show (true = true) = True from by simp]
      exact ⟨hT2, hX2, hF2, hn2⟩
theorem c_Tabulator_totalsClash (G : mz_G) (n : Nat) (f : mz_H) {b w lv : Nat} {F T L : Nat → Nat} {u : tT} (hE : f 1000000000001 = mz_d) (hT : Tb f u.2.1) (hX : TT f u) (hB : Bd f b w F T L) (hok : BdOk w F T L) (hb : 126 < b) (hlv : lv ≤ 4) :
    mz_Ct G mk_P y_Tabulator_totalsClash b_Tabulator_totalsClash 4 (some .boolean) (r_Tabulator_totalsClash 0 0) [.ref 16, .ref b, .int (nI lv)] n f (fun v n' f' => v = some (.int (mk_b (tcB F T L u.1 w lv = true))) ∧ n' = n ∧ Tb f' u.2.1 ∧ TT f' u ∧ FrT f f' ∧ (∀ z, 121 < z → f' z = f z)) := by
  refine mk_Ct 10 false [some (.ref 16), some (.ref b), some (.int (nI lv)), none] (by decide) rfl (by decide) (Nat.le_of_ble_eq_true rfl) rfl ?_
  refine mz_go [2] 20 ?_
  simp only [mz_run, ev_0, ev_1, ev_2, ev_3, ev_4, ev_5, ev_6, ev_7, ev_8, ev_9, ev_10, ev_11, ev_12, ev_13, ev_14, ev_15, ev_16, ev_17, ev_18, ev_19, ev_20, ev_21, ev_22, ev_23, ev_24, ev_25, ev_26, ev_27, ev_28, ev_29, ev_30, ev_31, ev_32, ev_33, ev_34, ev_35, ev_36, ev_37, ev_38, ev_39, ev_40, ev_41, ev_42, ev_43, ev_44, ev_45, ev_46, ev_47, ev_48, ev_49, ev_50, ev_51, ev_52, ev_53, ev_54, ev_55, ev_56, ev_57, ev_58, ev_59, ev_60, ev_61, ev_62, ev_63, ev_64, ev_65, ev_66, ev_67, ev_68, ev_69, ev_70, ev_71, ev_72, ev_73, ev_74, ev_75, ev_76, ev_77, ev_78, ev_79, ev_80, ev_81, ev_82, ev_83, mk_lit, mk_fin, mk_cat, mk_fit, mk_nar, mk_fld, mk_cls, mk_ty, mk_isr, List.mem_cons, List.not_mem_nil, or_false, or_true, false_or, true_or, Nat.reduceEqDiff, Nat.reduceAdd, Nat.reduceSub, Nat.reduceLT, Nat.reduceLeDiff, reduceIte, if_true, if_false, List.getElem?_cons_zero, List.getElem?_cons_succ, List.set_cons_zero, List.set_cons_succ, List.length_cons, List.length_nil, mz_s1, mz_s2, mz_cl, true_and, and_true, false_and, and_false, List.append_nil, mk_b0, mk_b1, mk_b2, mk_bn, Value.int.injEq, Option.toList_some, Option.toList_none, List.cons_append, List.nil_append, Classical.not_not, Option.some.injEq, reduceCtorEq, ne_eq, not_true_eq_false, not_false_eq_true, false_implies, true_implies, d_Tabulator_totalsClash, j_Tabulator_totalsClash, nF_10]
  exact l_Tabulator_totalsClash G n f hE hB hok hb hlv _ rfl lv 0 f (by omega) rfl hT hX FrT_rf (fun _ _ => rfl)
theorem pw6 : mk_pw 6 = nI 1000000 := by decide +kernel
theorem l_Tabulator_isAnyOverrun (G : mz_G) (n : Nat) (f : mz_H) {b w lv : Nat} {F T L t : Nat → Nat} {u : tT} (hE : f 1000000000001 = mz_d) (hT : Tb f u.2.1) (hX : TT f u) (hen : En f F T t w) (ht : ∀ j, j < 16 → sg (t j)) (hB : Bd f b w F T L) (hok : BdOk w F T L) (hlv : lv ≤ 4) (R : Bool) (hR : R = ovB F T L u.1 t w lv 4) :
    ∀ m k w4, k + m = 4 → ovB F T L u.1 t w lv k = false → (∀ v, w4 = some v → v.category = 1) → mz_X G mk_P 10 false b_Tabulator_isAnyOverrun 5 (some .boolean) (r_Tabulator_isAnyOverrun 0 0) (fun v n' f' => v = some (.int (mk_b (R = true))) ∧ n' = n ∧ f' = f) (fun _ _ _ => False) 2 [some (.ref 16), some (.ref b), some (.int (nI lv)), some (.int (nI k)), w4] [] 0 0 n f := by
  obtain ⟨g5, k5, hg5⟩ := hen
  obtain ⟨cl, k4⟩ := hT.2.2.2.2.2.2.2.2.1
  have h16 := hT.1
  have k7 := hX.1
  intro m
  induction m with
  | zero =>
    intro k w4 hk ho h4
    have : k = 4 := by omega
    subst this
    rw [ho] at hR
    subst hR
    refine mz_go [2] 20 ?_
    simp only [mz_run, ev_0, ev_1, ev_2, ev_3, ev_4, ev_5, ev_6, ev_7, ev_8, ev_9, ev_10, ev_11, ev_12, ev_13, ev_14, ev_15, ev_16, ev_17, ev_18, ev_19, ev_20, ev_21, ev_22, ev_23, ev_24, ev_25, ev_26, ev_27, ev_28, ev_29, ev_30, ev_31, ev_32, ev_33, ev_34, ev_35, ev_36, ev_37, ev_38, ev_39, ev_40, ev_41, ev_42, ev_43, ev_44, ev_45, ev_46, ev_47, ev_48, ev_49, ev_50, ev_51, ev_52, ev_53, ev_54, ev_55, ev_56, ev_57, ev_58, ev_59, ev_60, ev_61, ev_62, ev_63, ev_64, ev_65, ev_66, ev_67, ev_68, ev_69, ev_70, ev_71, ev_72, ev_73, ev_74, ev_75, ev_76, ev_77, ev_78, ev_79, ev_80, ev_81, ev_82, ev_83, mk_lit, mk_fin, mk_cat, mk_fit, mk_nar, mk_fld, mk_cls, mk_ty, mk_isr, List.mem_cons, List.not_mem_nil, or_false, or_true, false_or, true_or, Nat.reduceEqDiff, Nat.reduceAdd, Nat.reduceSub, Nat.reduceLT, Nat.reduceLeDiff, reduceIte, if_true, if_false, List.getElem?_cons_zero, List.getElem?_cons_succ, List.set_cons_zero, List.set_cons_succ, List.length_cons, List.length_nil, mz_s1, mz_s2, mz_cl, true_and, and_true, false_and, and_false, List.append_nil, mk_b0, mk_b1, mk_b2, mk_bn, Value.int.injEq, Option.toList_some, Option.toList_none, List.cons_append, List.nil_append, Classical.not_not, Option.some.injEq, reduceCtorEq, ne_eq, not_true_eq_false, not_false_eq_true, false_implies, true_implies, d_Tabulator_isAnyOverrun, j_Tabulator_isAnyOverrun, nF_10, mk_le, mk_ti, Int.le_refl, show (false = true) = False from by simp]
  | succ m ih =>
    intro k w4 hk ho h4
    have e := hok.2.2 k (by omega)
    have hcb := hX.2.2.2.2 k (by omega)
    have heb := enN_lt (T := T) (c := k) hok ht 6
    have hst : stN L u.1 lv k < 1000000 := by unfold stN; split <;> omega
    have st : mz_X G mk_P 10 false b_Tabulator_isAnyOverrun 5 (some .boolean) (r_Tabulator_isAnyOverrun 0 0) (fun v n' f' => v = some (.int (mk_b (R = true))) ∧ n' = n ∧ f' = f) (fun _ _ _ => False) 29 [some (.ref 16), some (.ref b), some (.int (nI lv)), some (.int (nI k)), some (.int (nI (stN L u.1 lv k)))] [] 0 0 n f := by
      refine mz_go [33] 20 ?_
      simp only [mz_run, ev_0, ev_1, ev_2, ev_3, ev_4, ev_5, ev_6, ev_7, ev_8, ev_9, ev_10, ev_11, ev_12, ev_13, ev_14, ev_15, ev_16, ev_17, ev_18, ev_19, ev_20, ev_21, ev_22, ev_23, ev_24, ev_25, ev_26, ev_27, ev_28, ev_29, ev_30, ev_31, ev_32, ev_33, ev_34, ev_35, ev_36, ev_37, ev_38, ev_39, ev_40, ev_41, ev_42, ev_43, ev_44, ev_45, ev_46, ev_47, ev_48, ev_49, ev_50, ev_51, ev_52, ev_53, ev_54, ev_55, ev_56, ev_57, ev_58, ev_59, ev_60, ev_61, ev_62, ev_63, ev_64, ev_65, ev_66, ev_67, ev_68, ev_69, ev_70, ev_71, ev_72, ev_73, ev_74, ev_75, ev_76, ev_77, ev_78, ev_79, ev_80, ev_81, ev_82, ev_83, mk_lit, mk_fin, mk_cat, mk_fit, mk_nar, mk_fld, mk_cls, mk_ty, mk_isr, List.mem_cons, List.not_mem_nil, or_false, or_true, false_or, true_or, Nat.reduceEqDiff, Nat.reduceAdd, Nat.reduceSub, Nat.reduceLT, Nat.reduceLeDiff, reduceIte, if_true, if_false, List.getElem?_cons_zero, List.getElem?_cons_succ, List.set_cons_zero, List.set_cons_succ, List.length_cons, List.length_nil, mz_s1, mz_s2, mz_cl, true_and, and_true, false_and, and_false, List.append_nil, mk_b0, mk_b1, mk_b2, mk_bn, Value.int.injEq, Option.toList_some, Option.toList_none, List.cons_append, List.nil_append, Classical.not_not, Option.some.injEq, reduceCtorEq, ne_eq, not_true_eq_false, not_false_eq_true, false_implies, true_implies, d_Tabulator_isAnyOverrun, j_Tabulator_isAnyOverrun, nF_10]
      refine mz_callV (by simp only [d_Tabulator_isAnyOverrun, Nat.reduceAdd]) g_10_123 rfl (fun _ _ h => h) (c_Tabulator_entered G n f (k := k) hE h16 k4 k5 (show k < 4 by omega) hg5) h16 rfl rfl (by decide) (Nat.le_of_ble_eq_true rfl) rfl ?_; intro v_ n_ f_ h_; obtain ⟨rfl, hn_, hf_⟩ := h_; replace hn_ := hn_.symm; replace hf_ := hf_.symm; subst hn_; subst hf_
      have hlt : (nI (stN L u.1 lv k + enN F T t w k 6) < nI 1000000) = (stN L u.1 lv k + enN F T t w k 6 < 1000000) := propext (nI_ltI (by omega) (by decide))
      by_cases hv : stN L u.1 lv k + enN F T t w k 6 < 1000000
      · refine mz_go [2] 40 ?_
        simp only [mz_run, ev_0, ev_1, ev_2, ev_3, ev_4, ev_5, ev_6, ev_7, ev_8, ev_9, ev_10, ev_11, ev_12, ev_13, ev_14, ev_15, ev_16, ev_17, ev_18, ev_19, ev_20, ev_21, ev_22, ev_23, ev_24, ev_25, ev_26, ev_27, ev_28, ev_29, ev_30, ev_31, ev_32, ev_33, ev_34, ev_35, ev_36, ev_37, ev_38, ev_39, ev_40, ev_41, ev_42, ev_43, ev_44, ev_45, ev_46, ev_47, ev_48, ev_49, ev_50, ev_51, ev_52, ev_53, ev_54, ev_55, ev_56, ev_57, ev_58, ev_59, ev_60, ev_61, ev_62, ev_63, ev_64, ev_65, ev_66, ev_67, ev_68, ev_69, ev_70, ev_71, ev_72, ev_73, ev_74, ev_75, ev_76, ev_77, ev_78, ev_79, ev_80, ev_81, ev_82, ev_83, mk_lit, mk_fin, mk_cat, mk_fit, mk_nar, mk_fld, mk_cls, mk_ty, mk_isr, List.mem_cons, List.not_mem_nil, or_false, or_true, false_or, true_or, Nat.reduceEqDiff, Nat.reduceAdd, Nat.reduceSub, Nat.reduceLT, Nat.reduceLeDiff, reduceIte, if_true, if_false, List.getElem?_cons_zero, List.getElem?_cons_succ, List.set_cons_zero, List.set_cons_succ, List.length_cons, List.length_nil, mz_s1, mz_s2, mz_cl, true_and, and_true, false_and, and_false, List.append_nil, mk_b0, mk_b1, mk_b2, mk_bn, Value.int.injEq, Option.toList_some, Option.toList_none, List.cons_append, List.nil_append, Classical.not_not, Option.some.injEq, reduceCtorEq, ne_eq, not_true_eq_false, not_false_eq_true, false_implies, true_implies, d_Tabulator_isAnyOverrun, j_Tabulator_isAnyOverrun, nF_10, mk_sta, mk_P1, hE, mz_d, vp_in_nI (show 6 < 7 by decide) (show 7 < 2 ^ 31 by decide), nI_clamp (show 6 < 2 ^ 31 by decide), nI_add, pw6, hlt, eq_true hv]
        exact ih (k + 1) _ (by omega) (by unfold ovB; rw [ho, decide_eq_false (by omega)]; rfl) (fun v hv => by cases hv; rfl)
      · rw [(ovB_iff 4).mpr ⟨k, by omega, by omega⟩] at hR
        subst hR
        refine mz_go [2] 40 ?_
        simp only [mz_run, ev_0, ev_1, ev_2, ev_3, ev_4, ev_5, ev_6, ev_7, ev_8, ev_9, ev_10, ev_11, ev_12, ev_13, ev_14, ev_15, ev_16, ev_17, ev_18, ev_19, ev_20, ev_21, ev_22, ev_23, ev_24, ev_25, ev_26, ev_27, ev_28, ev_29, ev_30, ev_31, ev_32, ev_33, ev_34, ev_35, ev_36, ev_37, ev_38, ev_39, ev_40, ev_41, ev_42, ev_43, ev_44, ev_45, ev_46, ev_47, ev_48, ev_49, ev_50, ev_51, ev_52, ev_53, ev_54, ev_55, ev_56, ev_57, ev_58, ev_59, ev_60, ev_61, ev_62, ev_63, ev_64, ev_65, ev_66, ev_67, ev_68, ev_69, ev_70, ev_71, ev_72, ev_73, ev_74, ev_75, ev_76, ev_77, ev_78, ev_79, ev_80, ev_81, ev_82, ev_83, mk_lit, mk_fin, mk_cat, mk_fit, mk_nar, mk_fld, mk_cls, mk_ty, mk_isr, List.mem_cons, List.not_mem_nil, or_false, or_true, false_or, true_or, Nat.reduceEqDiff, Nat.reduceAdd, Nat.reduceSub, Nat.reduceLT, Nat.reduceLeDiff, reduceIte, if_true, if_false, List.getElem?_cons_zero, List.getElem?_cons_succ, List.set_cons_zero, List.set_cons_succ, List.length_cons, List.length_nil, mz_s1, mz_s2, mz_cl, true_and, and_true, false_and, and_false, List.append_nil, mk_b0, mk_b1, mk_b2, mk_bn, Value.int.injEq, Option.toList_some, Option.toList_none, List.cons_append, List.nil_append, Classical.not_not, Option.some.injEq, reduceCtorEq, ne_eq, not_true_eq_false, not_false_eq_true, false_implies, true_implies, d_Tabulator_isAnyOverrun, j_Tabulator_isAnyOverrun, nF_10, mk_sta, mk_P1, hE, mz_d, vp_in_nI (show 6 < 7 by decide) (show 7 < 2 ^ 31 by decide), nI_clamp (show 6 < 2 ^ 31 by decide), nI_add, pw6, hlt, eq_false hv, show (true = true) = True from by simp]
    have stN_0 : L k < lv → stN L u.1 lv k = 0 := fun h => if_pos h
    have stN_1 : ¬ L k < lv → stN L u.1 lv k = u.1 k := fun h => if_neg h
    by_cases hl : lv ≤ L k
    · rw [stN_1 (by omega)] at st
      rcases w4 with _ | v4
      · refine mz_go [29] 40 ?_
        simp only [mz_run, ev_0, ev_1, ev_2, ev_3, ev_4, ev_5, ev_6, ev_7, ev_8, ev_9, ev_10, ev_11, ev_12, ev_13, ev_14, ev_15, ev_16, ev_17, ev_18, ev_19, ev_20, ev_21, ev_22, ev_23, ev_24, ev_25, ev_26, ev_27, ev_28, ev_29, ev_30, ev_31, ev_32, ev_33, ev_34, ev_35, ev_36, ev_37, ev_38, ev_39, ev_40, ev_41, ev_42, ev_43, ev_44, ev_45, ev_46, ev_47, ev_48, ev_49, ev_50, ev_51, ev_52, ev_53, ev_54, ev_55, ev_56, ev_57, ev_58, ev_59, ev_60, ev_61, ev_62, ev_63, ev_64, ev_65, ev_66, ev_67, ev_68, ev_69, ev_70, ev_71, ev_72, ev_73, ev_74, ev_75, ev_76, ev_77, ev_78, ev_79, ev_80, ev_81, ev_82, ev_83, mk_lit, mk_fin, mk_cat, mk_fit, mk_nar, mk_fld, mk_cls, mk_ty, mk_isr, List.mem_cons, List.not_mem_nil, or_false, or_true, false_or, true_or, Nat.reduceEqDiff, Nat.reduceAdd, Nat.reduceSub, Nat.reduceLT, Nat.reduceLeDiff, reduceIte, if_true, if_false, List.getElem?_cons_zero, List.getElem?_cons_succ, List.set_cons_zero, List.set_cons_succ, List.length_cons, List.length_nil, mz_s1, mz_s2, mz_cl, true_and, and_true, false_and, and_false, List.append_nil, mk_b0, mk_b1, mk_b2, mk_bn, Value.int.injEq, Option.toList_some, Option.toList_none, List.cons_append, List.nil_append, Classical.not_not, Option.some.injEq, reduceCtorEq, ne_eq, not_true_eq_false, not_false_eq_true, false_implies, true_implies, d_Tabulator_isAnyOverrun, j_Tabulator_isAnyOverrun, nF_10, nI_leI (show 4 < 2 ^ 31 by decide) (show k < 2 ^ 31 by omega), show ¬ 4 ≤ k by omega, hB.1, hB.2.2.2, h16, k7, vp_in_nI (show k < 4 by omega) (show 4 < 2 ^ 31 by decide), nI_clamp (show k < 2 ^ 31 by omega), nI_leI (show lv < 2 ^ 31 by omega) (show L k < 2 ^ 31 by omega), eq_true hl]
        exact st
      · have h4' := h4 v4 rfl
        refine mz_go [29] 40 ?_
        simp only [mz_run, ev_0, ev_1, ev_2, ev_3, ev_4, ev_5, ev_6, ev_7, ev_8, ev_9, ev_10, ev_11, ev_12, ev_13, ev_14, ev_15, ev_16, ev_17, ev_18, ev_19, ev_20, ev_21, ev_22, ev_23, ev_24, ev_25, ev_26, ev_27, ev_28, ev_29, ev_30, ev_31, ev_32, ev_33, ev_34, ev_35, ev_36, ev_37, ev_38, ev_39, ev_40, ev_41, ev_42, ev_43, ev_44, ev_45, ev_46, ev_47, ev_48, ev_49, ev_50, ev_51, ev_52, ev_53, ev_54, ev_55, ev_56, ev_57, ev_58, ev_59, ev_60, ev_61, ev_62, ev_63, ev_64, ev_65, ev_66, ev_67, ev_68, ev_69, ev_70, ev_71, ev_72, ev_73, ev_74, ev_75, ev_76, ev_77, ev_78, ev_79, ev_80, ev_81, ev_82, ev_83, mk_lit, mk_fin, mk_cat, mk_fit, mk_nar, mk_fld, mk_cls, mk_ty, mk_isr, List.mem_cons, List.not_mem_nil, or_false, or_true, false_or, true_or, Nat.reduceEqDiff, Nat.reduceAdd, Nat.reduceSub, Nat.reduceLT, Nat.reduceLeDiff, reduceIte, if_true, if_false, List.getElem?_cons_zero, List.getElem?_cons_succ, List.set_cons_zero, List.set_cons_succ, List.length_cons, List.length_nil, mz_s1, mz_s2, mz_cl, true_and, and_true, false_and, and_false, List.append_nil, mk_b0, mk_b1, mk_b2, mk_bn, Value.int.injEq, Option.toList_some, Option.toList_none, List.cons_append, List.nil_append, Classical.not_not, Option.some.injEq, reduceCtorEq, ne_eq, not_true_eq_false, not_false_eq_true, false_implies, true_implies, d_Tabulator_isAnyOverrun, j_Tabulator_isAnyOverrun, nF_10, nI_leI (show 4 < 2 ^ 31 by decide) (show k < 2 ^ 31 by omega), show ¬ 4 ≤ k by omega, hB.1, hB.2.2.2, h16, k7, vp_in_nI (show k < 4 by omega) (show 4 < 2 ^ 31 by decide), nI_clamp (show k < 2 ^ 31 by omega), nI_leI (show lv < 2 ^ 31 by omega) (show L k < 2 ^ 31 by omega), eq_true hl, h4']
        exact st
    · rw [stN_0 (by omega)] at st
      rcases w4 with _ | v4
      · refine mz_go [29] 40 ?_
        simp only [mz_run, ev_0, ev_1, ev_2, ev_3, ev_4, ev_5, ev_6, ev_7, ev_8, ev_9, ev_10, ev_11, ev_12, ev_13, ev_14, ev_15, ev_16, ev_17, ev_18, ev_19, ev_20, ev_21, ev_22, ev_23, ev_24, ev_25, ev_26, ev_27, ev_28, ev_29, ev_30, ev_31, ev_32, ev_33, ev_34, ev_35, ev_36, ev_37, ev_38, ev_39, ev_40, ev_41, ev_42, ev_43, ev_44, ev_45, ev_46, ev_47, ev_48, ev_49, ev_50, ev_51, ev_52, ev_53, ev_54, ev_55, ev_56, ev_57, ev_58, ev_59, ev_60, ev_61, ev_62, ev_63, ev_64, ev_65, ev_66, ev_67, ev_68, ev_69, ev_70, ev_71, ev_72, ev_73, ev_74, ev_75, ev_76, ev_77, ev_78, ev_79, ev_80, ev_81, ev_82, ev_83, mk_lit, mk_fin, mk_cat, mk_fit, mk_nar, mk_fld, mk_cls, mk_ty, mk_isr, List.mem_cons, List.not_mem_nil, or_false, or_true, false_or, true_or, Nat.reduceEqDiff, Nat.reduceAdd, Nat.reduceSub, Nat.reduceLT, Nat.reduceLeDiff, reduceIte, if_true, if_false, List.getElem?_cons_zero, List.getElem?_cons_succ, List.set_cons_zero, List.set_cons_succ, List.length_cons, List.length_nil, mz_s1, mz_s2, mz_cl, true_and, and_true, false_and, and_false, List.append_nil, mk_b0, mk_b1, mk_b2, mk_bn, Value.int.injEq, Option.toList_some, Option.toList_none, List.cons_append, List.nil_append, Classical.not_not, Option.some.injEq, reduceCtorEq, ne_eq, not_true_eq_false, not_false_eq_true, false_implies, true_implies, d_Tabulator_isAnyOverrun, j_Tabulator_isAnyOverrun, nF_10, nI_leI (show 4 < 2 ^ 31 by decide) (show k < 2 ^ 31 by omega), show ¬ 4 ≤ k by omega, hB.1, hB.2.2.2, h16, k7, vp_in_nI (show k < 4 by omega) (show 4 < 2 ^ 31 by decide), nI_clamp (show k < 2 ^ 31 by omega), nI_leI (show lv < 2 ^ 31 by omega) (show L k < 2 ^ 31 by omega), eq_false hl]
        exact st
      · have h4' := h4 v4 rfl
        refine mz_go [29] 40 ?_
        simp only [mz_run, ev_0, ev_1, ev_2, ev_3, ev_4, ev_5, ev_6, ev_7, ev_8, ev_9, ev_10, ev_11, ev_12, ev_13, ev_14, ev_15, ev_16, ev_17, ev_18, ev_19, ev_20, ev_21, ev_22, ev_23, ev_24, ev_25, ev_26, ev_27, ev_28, ev_29, ev_30, ev_31, ev_32, ev_33, ev_34, ev_35, ev_36, ev_37, ev_38, ev_39, ev_40, ev_41, ev_42, ev_43, ev_44, ev_45, ev_46, ev_47, ev_48, ev_49, ev_50, ev_51, ev_52, ev_53, ev_54, ev_55, ev_56, ev_57, ev_58, ev_59, ev_60, ev_61, ev_62, ev_63, ev_64, ev_65, ev_66, ev_67, ev_68, ev_69, ev_70, ev_71, ev_72, ev_73, ev_74, ev_75, ev_76, ev_77, ev_78, ev_79, ev_80, ev_81, ev_82, ev_83, mk_lit, mk_fin, mk_cat, mk_fit, mk_nar, mk_fld, mk_cls, mk_ty, mk_isr, List.mem_cons, List.not_mem_nil, or_false, or_true, false_or, true_or, Nat.reduceEqDiff, Nat.reduceAdd, Nat.reduceSub, Nat.reduceLT, Nat.reduceLeDiff, reduceIte, if_true, if_false, List.getElem?_cons_zero, List.getElem?_cons_succ, List.set_cons_zero, List.set_cons_succ, List.length_cons, List.length_nil, mz_s1, mz_s2, mz_cl, true_and, and_true, false_and, and_false, List.append_nil, mk_b0, mk_b1, mk_b2, mk_bn, Value.int.injEq, Option.toList_some, Option.toList_none, List.cons_append, List.nil_append, Classical.not_not, Option.some.injEq, reduceCtorEq, ne_eq, not_true_eq_false, not_false_eq_true, false_implies, true_implies, d_Tabulator_isAnyOverrun, j_Tabulator_isAnyOverrun, nF_10, nI_leI (show 4 < 2 ^ 31 by decide) (show k < 2 ^ 31 by omega), show ¬ 4 ≤ k by omega, hB.1, hB.2.2.2, h16, k7, vp_in_nI (show k < 4 by omega) (show 4 < 2 ^ 31 by decide), nI_clamp (show k < 2 ^ 31 by omega), nI_leI (show lv < 2 ^ 31 by omega) (show L k < 2 ^ 31 by omega), eq_false hl, h4']
        exact st
theorem c_Tabulator_isAnyOverrun (G : mz_G) (n : Nat) (f : mz_H) {b w lv : Nat} {F T L t : Nat → Nat} {u : tT} (hE : f 1000000000001 = mz_d) (hT : Tb f u.2.1) (hX : TT f u) (hen : En f F T t w) (ht : ∀ j, j < 16 → sg (t j)) (hB : Bd f b w F T L) (hok : BdOk w F T L) (hlv : lv ≤ 4) :
    mz_Ct G mk_P y_Tabulator_isAnyOverrun b_Tabulator_isAnyOverrun 5 (some .boolean) (r_Tabulator_isAnyOverrun 0 0) [.ref 16, .ref b, .int (nI lv)] n f (fun v n' f' => v = some (.int (mk_b (ovB F T L u.1 t w lv 4 = true))) ∧ n' = n ∧ f' = f) := by
  refine mk_Ct 10 false [some (.ref 16), some (.ref b), some (.int (nI lv)), none, none] (by decide) rfl (by decide) (Nat.le_of_ble_eq_true rfl) rfl ?_
  refine mz_go [2] 20 ?_
  simp only [mz_run, ev_0, ev_1, ev_2, ev_3, ev_4, ev_5, ev_6, ev_7, ev_8, ev_9, ev_10, ev_11, ev_12, ev_13, ev_14, ev_15, ev_16, ev_17, ev_18, ev_19, ev_20, ev_21, ev_22, ev_23, ev_24, ev_25, ev_26, ev_27, ev_28, ev_29, ev_30, ev_31, ev_32, ev_33, ev_34, ev_35, ev_36, ev_37, ev_38, ev_39, ev_40, ev_41, ev_42, ev_43, ev_44, ev_45, ev_46, ev_47, ev_48, ev_49, ev_50, ev_51, ev_52, ev_53, ev_54, ev_55, ev_56, ev_57, ev_58, ev_59, ev_60, ev_61, ev_62, ev_63, ev_64, ev_65, ev_66, ev_67, ev_68, ev_69, ev_70, ev_71, ev_72, ev_73, ev_74, ev_75, ev_76, ev_77, ev_78, ev_79, ev_80, ev_81, ev_82, ev_83, mk_lit, mk_fin, mk_cat, mk_fit, mk_nar, mk_fld, mk_cls, mk_ty, mk_isr, List.mem_cons, List.not_mem_nil, or_false, or_true, false_or, true_or, Nat.reduceEqDiff, Nat.reduceAdd, Nat.reduceSub, Nat.reduceLT, Nat.reduceLeDiff, reduceIte, if_true, if_false, List.getElem?_cons_zero, List.getElem?_cons_succ, List.set_cons_zero, List.set_cons_succ, List.length_cons, List.length_nil, mz_s1, mz_s2, mz_cl, true_and, and_true, false_and, and_false, List.append_nil, mk_b0, mk_b1, mk_b2, mk_bn, Value.int.injEq, Option.toList_some, Option.toList_none, List.cons_append, List.nil_append, Classical.not_not, Option.some.injEq, reduceCtorEq, ne_eq, not_true_eq_false, not_false_eq_true, false_implies, true_implies, d_Tabulator_isAnyOverrun, j_Tabulator_isAnyOverrun, nF_10]
  exact l_Tabulator_isAnyOverrun G n f hE hT hX hen ht hB hok hlv _ rfl 4 0 none (by omega) rfl (fun v hv => by cases hv)
