theorem Dk_take (G : mz_G) (X : mz_E) (n : Nat) (H : mz_H) {d a o b sd so K : Nat} {co : Nat → Nat} (hd : ∃ g, H d = .inr (4, [.ref a, .int (nI sd)]) ∧ H a = aQ 6 200 g) (ho : Dk H o b so K co) (hdo : d ≠ o) (hab : a ≠ b) (hda : d ≠ a) (hao : a ≠ o) (hso : so ≤ 200) (hbr : b ≠ d ∧ b ≠ o) (hC : ∀ x, x < K → ∃ fs, H (172 + 2 * x) = .inr (2, fs)) : mz_Ct G X y_Deck_takeAllOf b_Deck_takeAllOf 3 none (r_Deck_takeAllOf 0 0) [.ref d, .ref o] n H (fun v n' H' => v = none ∧ n' = n ∧ (∀ z, z ≠ d → z ≠ a → z ≠ o → H' z = H z) ∧ Dk H' d a so K co ∧ Dk H' o b 0 K co) := by
  obtain ⟨g, hd1, hd2⟩ := hd
  obtain ⟨go, b1, b2, b3⟩ := ho
  intro ad sz hwf hok
  refine mz_Mono (c_Deck_takeAllOf G X n H hd1 hd2 b1 b2 hdo hab hso (fun j hj => by
    obtain ⟨fs, hfs⟩ := hC _ (b3 j hj).2
    exact ⟨_, fs, (b3 j hj).1, hfs⟩) ad sz hwf hok) ?_
  rintro v n' f' ⟨rfl, rfl, rfl⟩
  refine ⟨rfl, rfl, fun z z1 z2 z3 => by rw [mz_u_n z3, mz_u_n z1, mz_u_n z2], ⟨cpy go g so, ?_, ?_, fun j hj => ?_⟩, ⟨go, mz_u_s _ _ _, ?_, fun j hj => absurd hj (by omega)⟩⟩
  · rw [mz_u_n hdo, mz_u_s]
  · rw [mz_u_n hao, mz_u_n (Ne.symm hda), mz_u_s]
  · rw [cpy_lt hj]; exact b3 j hj
  · rw [mz_u_n hbr.2, mz_u_n hbr.1, mz_u_n (Ne.symm hab)]; exact b2
def mtPost (f : mz_H) (n d a o b e ea si K t : Nat) (br : Int32) (R : mtM) (v : Option Value) (n' : Nat) (F' : mz_H) : Prop := v = some (.int (nI (R.2.2.1 - si))) ∧ n' = n ∧ R.1.1 + R.2.1.1 + R.2.2.1 = si + t ∧ (∀ z, z ≠ 8 → z ≠ 9 → z ≠ 10 → z ≠ 11 → z ≠ 12 → z ≠ e → z ≠ ea → z ≠ d → z ≠ a → z ≠ o → z ≠ b → F' z = f z) ∧ F' 8 = .inr (3, [.ref 9, .ref 11, .int (br + nI (R.2.2.1 - si))]) ∧ (∃ x, Dk F' 9 10 0 K x) ∧ (∃ x, Dk F' 11 12 0 K x) ∧ Dk F' e ea R.2.2.1 K R.2.2.2 ∧ Dk F' d a R.1.1 K R.1.2 ∧ Dk F' o b R.2.1.1 K R.2.1.2
theorem mtF_ge {s : Nat → Nat → Nat} {fr to sz so : Nat} {c co : Nat → Nat} : ∀ m i j lt M, M.2.2.1 ≤ (mtF s fr to c co sz so m i j lt M).2.2.1 := by
  intro m
  induction m with
  | zero => intro i j lt M; exact Nat.le_refl _
  | succ m ih =>
    intro i j lt M
    unfold mtF
    split
    · cases lt with
      | none => exact ih i (j + 1) none (M.1, mtP M.2.1 (co j), M.2.2)
      | some x =>
        simp only []
        split
        · exact Nat.le_trans (Nat.le_succ _) (ih i (j + 1) (some x) (M.1, M.2.1, mtP M.2.2 (co j)))
        · exact ih i (j + 1) (some x) (M.1, mtP M.2.1 (co j), M.2.2)
    · split
      · exact Nat.le_trans (Nat.le_succ _) (ih (i + 1) j (some (c i)) (M.1, M.2.1, mtP M.2.2 (c i)))
      · exact ih (i + 1) j lt (mtP M.1 (c i), M.2.1, M.2.2)
theorem c_Collator_matchOn (G : mz_G) (X : mz_E) (n : Nat) (f : mz_H) {d a o b e ea sz so si fr to K : Nat} {s : Nat → Nat → Nat} {c co ce c1 c2 : Nat → Nat} {br : Int32} (h8 : f 8 = .inr (3, [.ref 9, .ref 11, .int br])) (hD1 : Dk f 9 10 0 K c1) (hD2 : Dk f 11 12 0 K c2) (hd : Dk f d a sz K c) (ho : Dk f o b so K co) (he : Dk f e ea si K ce) (hs : sz + so + si ≤ 200) (hC : Cd f K s) (hf : fr ≤ to) (ht : to < 16) (hdr : 12 < d ∧ d < 172) (har : 12 < a ∧ a < 172) (hor : 12 < o ∧ o < 172) (hbr : 12 < b ∧ b < 172) (her : 12 < e ∧ e < 172) (hear : 12 < ea ∧ ea < 172) (hde : d ≠ e ∧ d ≠ ea) (hae : a ≠ e ∧ a ≠ ea) (hoe : o ≠ e ∧ o ≠ ea) (hbe : b ≠ e ∧ b ≠ ea) (hee : e ≠ ea) (hdo : d ≠ o ∧ d ≠ b ∧ d ≠ a) (hao : a ≠ o ∧ a ≠ b) (hob : o ≠ b) :
    mz_Ct G X y_Collator_matchOn b_Collator_matchOn 15 (some .int) (r_Collator_matchOn 0 0) [.ref 8, .ref d, .ref o, .ref e, .int (nI fr), .int (nI to)] n f (mtPost f n d a o b e ea si K (sz + so) br (mtF s fr to c co sz so (sz + so) 0 0 none ((0, c1), (0, c2), (si, ce)))) := by
  obtain ⟨g, h1, h2, hP⟩ := id hd
  obtain ⟨go, h3, h4, hPo⟩ := id ho
  obtain ⟨ge, h5, h6, hPe⟩ := id he
  obtain ⟨R, hR⟩ : ∃ R, (mtF s fr to c co sz so (sz + so) 0 0 none ((0, c1), (0, c2), (si, ce))) = R := ⟨_, rfl⟩
  rw [hR]
  have hge : si ≤ R.2.2.1 := by rw [← hR]; exact mtF_ge (sz + so) 0 0 none ((0, c1), (0, c2), (si, ce))
  refine mk_Ct 3 false [some (.ref 8), some (.ref d), some (.ref o), some (.ref e), some (.int (nI fr)), some (.int (nI to)), none, none, none, none, none, none, none, none, none] (by decide) rfl (by decide) (Nat.le_of_ble_eq_true rfl) rfl ?_
  refine mz_go [29] 30 ?_
  simp only [mz_r0, ev_0, ev_1, ev_2, ev_3, ev_4, ev_5, ev_6, ev_7, ev_8, ev_9, ev_10, ev_11, ev_12, ev_13, ev_14, ev_15, ev_16, ev_17, ev_18, ev_19, ev_20, ev_21, ev_22, ev_23, ev_24, ev_25, ev_26, ev_27, ev_28, ev_29, ev_30, ev_31, ev_32, ev_33, ev_34, ev_35, ev_36, ev_37, ev_38, ev_39, ev_40, ev_41, ev_42, ev_43, ev_44, ev_45, ev_46, ev_47, ev_48, ev_49, ev_50, ev_51, ev_52, ev_53, ev_54, ev_55, ev_56, ev_57, ev_58, ev_59, ev_60, ev_61, ev_62, ev_63, ev_64, ev_65, ev_66, ev_67, ev_68, ev_69, ev_70, ev_71, ev_72, ev_73, ev_74, ev_75, ev_76, ev_77, ev_78, ev_79, ev_80, ev_81, ev_82, ev_83, mk_lit, mk_fin, mk_cat, mk_fit, mk_nar, mk_fld, mk_cls, mk_ty, mk_isr, List.mem_cons, List.not_mem_nil, or_false, or_true, false_or, true_or, Nat.reduceEqDiff, Nat.reduceAdd, Nat.reduceSub, Nat.reduceLT, Nat.reduceLeDiff, ↓reduceIte, if_true, if_false, List.getElem?_cons_zero, List.getElem?_cons_succ, List.set_cons_zero, List.set_cons_succ, List.length_cons, List.length_nil, mz_s1, mz_s2, mz_cl, true_and, and_true, false_and, and_false, List.append_nil, mk_b0, mk_b1, mk_b2, mk_bn, Value.int.injEq, Option.toList_some, Option.toList_none, List.cons_append, List.nil_append, Classical.not_not, Option.some.injEq, reduceCtorEq, ne_eq, not_true_eq_false, not_false_eq_true, false_implies, true_implies, mz_rl d_Collator_matchOn_0, mz_rl d_Collator_matchOn_1, mz_rl d_Collator_matchOn_4, mz_rl d_Collator_matchOn_5, mz_rl d_Collator_matchOn_8, mz_rl d_Collator_matchOn_9, mz_rl d_Collator_matchOn_11, mz_rl d_Collator_matchOn_12, mz_rl d_Collator_matchOn_15, mz_rl d_Collator_matchOn_17, mz_rl d_Collator_matchOn_18, mz_rl d_Collator_matchOn_20, mz_rl d_Collator_matchOn_21, mz_rl d_Collator_matchOn_23, mz_rl d_Collator_matchOn_24, mz_rl d_Collator_matchOn_26, mz_rl d_Collator_matchOn_27, nF_3, h1, h3, h5, nI_add]
  refine l_Collator_matchOn G X n f (mtPost f n d a o b e ea si K (sz + so) br R) h8 h1 h2 h3 h4 hs hC hP hPo hf ht hdr har hor hbr her hear hde hae hoe hbe hee R ?_ (sz + so) 0 0 0 f ((0, c1), (0, c2), (si, ce)) none none none none (by omega) (by omega) (fun x hx => by cases hx) hR (fun v hv => by cases hv) (fun v hv => by cases hv) ⟨fun _ _ _ _ _ _ _ => rfl, by show 0 + 0 + si = si + 0; omega, hD1, hD2, he⟩
  intro H i j w10 w12 w13 w14 hI
  obtain ⟨hfr, hsum, q1, q2, q3⟩ := hI
  have k8 := (hfr 8 (by decide) (by decide) (by decide) (by decide) (by omega) (by omega)).trans h8
  have k1 := (hfr d (by omega) (by omega) (by omega) (by omega) hde.1 hde.2).trans h1
  have k2 := (hfr a (by omega) (by omega) (by omega) (by omega) hae.1 hae.2).trans h2
  have k3 := (hfr o (by omega) (by omega) (by omega) (by omega) hoe.1 hoe.2).trans h3
  have k4 := (hfr b (by omega) (by omega) (by omega) (by omega) hbe.1 hbe.2).trans h4
  have kC : ∀ x, x < K → ∃ fs, H (172 + 2 * x) = .inr (2, fs) := fun x hx => ⟨_, (hfr (172 + 2 * x) (by omega) (by omega) (by omega) (by omega) (by omega) (by omega)).trans (hC x hx).1⟩
  refine mz_go [176] 30 ?_
  simp only [mz_run, ev_0, ev_1, ev_2, ev_3, ev_4, ev_5, ev_6, ev_7, ev_8, ev_9, ev_10, ev_11, ev_12, ev_13, ev_14, ev_15, ev_16, ev_17, ev_18, ev_19, ev_20, ev_21, ev_22, ev_23, ev_24, ev_25, ev_26, ev_27, ev_28, ev_29, ev_30, ev_31, ev_32, ev_33, ev_34, ev_35, ev_36, ev_37, ev_38, ev_39, ev_40, ev_41, ev_42, ev_43, ev_44, ev_45, ev_46, ev_47, ev_48, ev_49, ev_50, ev_51, ev_52, ev_53, ev_54, ev_55, ev_56, ev_57, ev_58, ev_59, ev_60, ev_61, ev_62, ev_63, ev_64, ev_65, ev_66, ev_67, ev_68, ev_69, ev_70, ev_71, ev_72, ev_73, ev_74, ev_75, ev_76, ev_77, ev_78, ev_79, ev_80, ev_81, ev_82, ev_83, mk_lit, mk_fin, mk_cat, mk_fit, mk_nar, mk_fld, mk_cls, mk_ty, mk_isr, List.mem_cons, List.not_mem_nil, or_false, or_true, false_or, true_or, Nat.reduceEqDiff, Nat.reduceAdd, Nat.reduceSub, Nat.reduceLT, Nat.reduceLeDiff, reduceIte, if_true, if_false, List.getElem?_cons_zero, List.getElem?_cons_succ, List.set_cons_zero, List.set_cons_succ, List.length_cons, List.length_nil, mz_s1, mz_s2, mz_cl, true_and, and_true, false_and, and_false, List.append_nil, mk_b0, mk_b1, mk_b2, mk_bn, Value.int.injEq, Option.toList_some, Option.toList_none, List.cons_append, List.nil_append, Classical.not_not, Option.some.injEq, reduceCtorEq, ne_eq, not_true_eq_false, not_false_eq_true, false_implies, true_implies, d_Collator_matchOn, j_Collator_matchOn, nF_3, k8]
  refine mz_callV (by simp only [d_Collator_matchOn_176, Nat.reduceAdd]) g_3_38 rfl (fun _ _ h => h) (Dk_take G X n H (d := d) (a := a) (sd := sz) ⟨g, k1, k2⟩ q1 (by omega) (by omega) hdo.2.2 (by omega) (by omega) ⟨by omega, by omega⟩ kC) k1 rfl rfl (by decide) (Nat.le_of_ble_eq_true rfl) rfl ?_; rintro v_ n_ f_ ⟨rfl, rfl, hf2, p1, p2⟩
  obtain ⟨H2, hH2⟩ : ∃ H2, H2 = f_ := ⟨_, rfl⟩
  subst hH2
  have s8 := (hf2 8 (by omega) (by omega) (by decide)).trans k8
  have s3 := (hf2 o (Ne.symm hdo.1) (Ne.symm hao.1) (by omega)).trans k3
  have s4 := (hf2 b (Ne.symm hdo.2.1) (Ne.symm hao.2) (by omega)).trans k4
  have sD2 : Dk H2 11 12 R.2.1.1 K R.2.1.2 := by
    obtain ⟨g', z1, z2, z3⟩ := q2
    exact ⟨g', (hf2 11 (by omega) (by omega) (by decide)).trans z1, (hf2 12 (by omega) (by omega) (by decide)).trans z2, z3⟩
  have sDe : Dk H2 e ea R.2.2.1 K R.2.2.2 := by
    obtain ⟨g', z1, z2, z3⟩ := q3
    exact ⟨g', (hf2 e (Ne.symm hde.1) (Ne.symm hae.1) (by omega)).trans z1, (hf2 ea (Ne.symm hde.2) (Ne.symm hae.2) (by omega)).trans z2, z3⟩
  have sC : ∀ x, x < K → ∃ fs, H2 (172 + 2 * x) = Sum.inr (2, fs) := fun x hx => by
    obtain ⟨fs, hfs⟩ := kC x hx
    exact ⟨fs, (hf2 _ (by omega) (by omega) (by omega)).trans hfs⟩
  refine mz_go [184] 30 ?_
  simp only [mz_r0, ev_0, ev_1, ev_2, ev_3, ev_4, ev_5, ev_6, ev_7, ev_8, ev_9, ev_10, ev_11, ev_12, ev_13, ev_14, ev_15, ev_16, ev_17, ev_18, ev_19, ev_20, ev_21, ev_22, ev_23, ev_24, ev_25, ev_26, ev_27, ev_28, ev_29, ev_30, ev_31, ev_32, ev_33, ev_34, ev_35, ev_36, ev_37, ev_38, ev_39, ev_40, ev_41, ev_42, ev_43, ev_44, ev_45, ev_46, ev_47, ev_48, ev_49, ev_50, ev_51, ev_52, ev_53, ev_54, ev_55, ev_56, ev_57, ev_58, ev_59, ev_60, ev_61, ev_62, ev_63, ev_64, ev_65, ev_66, ev_67, ev_68, ev_69, ev_70, ev_71, ev_72, ev_73, ev_74, ev_75, ev_76, ev_77, ev_78, ev_79, ev_80, ev_81, ev_82, ev_83, mk_lit, mk_fin, mk_cat, mk_fit, mk_nar, mk_fld, mk_cls, mk_ty, mk_isr, List.mem_cons, List.not_mem_nil, or_false, or_true, false_or, true_or, Nat.reduceEqDiff, Nat.reduceAdd, Nat.reduceSub, Nat.reduceLT, Nat.reduceLeDiff, ↓reduceIte, if_true, if_false, List.getElem?_cons_zero, List.getElem?_cons_succ, List.set_cons_zero, List.set_cons_succ, List.length_cons, List.length_nil, mz_s1, mz_s2, mz_cl, true_and, and_true, false_and, and_false, List.append_nil, mk_b0, mk_b1, mk_b2, mk_bn, Value.int.injEq, Option.toList_some, Option.toList_none, List.cons_append, List.nil_append, Classical.not_not, Option.some.injEq, reduceCtorEq, ne_eq, not_true_eq_false, not_false_eq_true, false_implies, true_implies, mz_rl d_Collator_matchOn_179, mz_rl d_Collator_matchOn_180, mz_rl d_Collator_matchOn_181, nF_3, s8]
  refine mz_callV (by simp only [d_Collator_matchOn_184, Nat.reduceAdd]) g_3_38 rfl (fun _ _ h => h) (Dk_take G X _ H2 (d := o) (a := b) (sd := so) ⟨go, s3, s4⟩ sD2 (by omega) (by omega) hob (by omega) (by omega) ⟨by omega, by omega⟩ sC) s3 rfl rfl (by decide) (Nat.le_of_ble_eq_true rfl) rfl ?_; rintro v_ n_ f_ ⟨rfl, rfl, hf3, p3, p4⟩
  obtain ⟨H3, hH3⟩ : ∃ H3, H3 = f_ := ⟨_, rfl⟩
  subst hH3
  have t8 := (hf3 8 (by omega) (by omega) (by decide)).trans s8
  have tDe : Dk H3 e ea R.2.2.1 K R.2.2.2 := by
    obtain ⟨g', z1, z2, z3⟩ := sDe
    exact ⟨g', (hf3 e (Ne.symm hoe.1) (Ne.symm hbe.1) (by omega)).trans z1, (hf3 ea (Ne.symm hoe.2) (Ne.symm hbe.2) (by omega)).trans z2, z3⟩
  have tDd : Dk H3 d a R.1.1 K R.1.2 := by
    obtain ⟨g', z1, z2, z3⟩ := p1
    exact ⟨g', (hf3 d hdo.1 hdo.2.1 (by omega)).trans z1, (hf3 a hao.1 hao.2 (by omega)).trans z2, z3⟩
  have tD9 : Dk H3 9 10 0 K R.1.2 := by
    obtain ⟨g', z1, z2, z3⟩ := p2
    exact ⟨g', (hf3 9 (by omega) (by omega) (by decide)).trans z1, (hf3 10 (by omega) (by omega) (by decide)).trans z2, z3⟩
  obtain ⟨g', z1, z2, z3⟩ := id tDe
  refine mz_go [] 30 ?_
  simp only [mz_r0, ev_0, ev_1, ev_2, ev_3, ev_4, ev_5, ev_6, ev_7, ev_8, ev_9, ev_10, ev_11, ev_12, ev_13, ev_14, ev_15, ev_16, ev_17, ev_18, ev_19, ev_20, ev_21, ev_22, ev_23, ev_24, ev_25, ev_26, ev_27, ev_28, ev_29, ev_30, ev_31, ev_32, ev_33, ev_34, ev_35, ev_36, ev_37, ev_38, ev_39, ev_40, ev_41, ev_42, ev_43, ev_44, ev_45, ev_46, ev_47, ev_48, ev_49, ev_50, ev_51, ev_52, ev_53, ev_54, ev_55, ev_56, ev_57, ev_58, ev_59, ev_60, ev_61, ev_62, ev_63, ev_64, ev_65, ev_66, ev_67, ev_68, ev_69, ev_70, ev_71, ev_72, ev_73, ev_74, ev_75, ev_76, ev_77, ev_78, ev_79, ev_80, ev_81, ev_82, ev_83, mk_lit, mk_fin, mk_cat, mk_fit, mk_nar, mk_fld, mk_cls, mk_ty, mk_isr, List.mem_cons, List.not_mem_nil, or_false, or_true, false_or, true_or, Nat.reduceEqDiff, Nat.reduceAdd, Nat.reduceSub, Nat.reduceLT, Nat.reduceLeDiff, ↓reduceIte, if_true, if_false, List.getElem?_cons_zero, List.getElem?_cons_succ, List.set_cons_zero, List.set_cons_succ, List.length_cons, List.length_nil, mz_s1, mz_s2, mz_cl, true_and, and_true, false_and, and_false, List.append_nil, mk_b0, mk_b1, mk_b2, mk_bn, Value.int.injEq, Option.toList_some, Option.toList_none, List.cons_append, List.nil_append, Classical.not_not, Option.some.injEq, reduceCtorEq, ne_eq, not_true_eq_false, not_false_eq_true, false_implies, true_implies, mz_rl d_Collator_matchOn_187, mz_rl d_Collator_matchOn_188, mz_rl d_Collator_matchOn_189, mz_rl d_Collator_matchOn_192, mz_rl d_Collator_matchOn_193, mz_rl d_Collator_matchOn_196, mz_rl d_Collator_matchOn_198, mz_rl d_Collator_matchOn_199, mz_rl d_Collator_matchOn_200, mz_rl d_Collator_matchOn_203, mz_rl d_Collator_matchOn_204, mz_rl d_Collator_matchOn_207, mz_rl d_Collator_matchOn_209, mz_rl d_Collator_matchOn_210, nF_3, t8, z1, mz_u_n (show e ≠ 8 by omega), pk_sub hge]
  have up : ∀ {D A r : Nat} {c' : Nat → Nat}, D ≠ 8 → A ≠ 8 → Dk H3 D A r K c' → ∀ x, Dk (mz_u H3 8 x) D A r K c' := fun h1 h2 h3 x => by
    obtain ⟨g', z1, z2, z3⟩ := h3
    exact ⟨g', by rw [mz_u_n h1]; exact z1, by rw [mz_u_n h2]; exact z2, z3⟩
  refine ⟨rfl, rfl, hsum, fun z a0 a1 a2 a3 a4 a5 a6 a7 a8 a9 a10 => ?_, mz_u_s _ _ _, ⟨_, up (by decide) (by decide) tD9 _⟩, ⟨_, up (by decide) (by decide) p4 _⟩, up (by omega) (by omega) tDe _, up (by omega) (by omega) tDd _, up (by omega) (by omega) p3 _⟩
  rw [mz_u_n a0, hf3 z a9 a10 a3, hf2 z a7 a8 a1, hfr z a1 a2 a3 a4 a5 a6]
/-- the into deck behind i cards of g -/
def apd (g gi : Nat → Option Nat) (si i : Nat) : Nat → Option Nat := fun j => if si ≤ j ∧ j < si + i then g (j - si) else gi j
theorem apd_up (g gi : Nat → Option Nat) (si i : Nat) : va_up (apd g gi si i) (si + i) (g i) = apd g gi si (i + 1) := by
  funext j
  unfold va_up apd
  by_cases e : j = si + i
  · subst e
    rw [if_pos rfl, if_pos (by omega)]
    congr 1; omega
  · rw [if_neg e]
    by_cases h : si ≤ j ∧ j < si + i
    · rw [if_pos h, if_pos (by omega)]
    · rw [if_neg h, if_neg (by omega)]
theorem l_Deck_moveFirst1 (G : mz_G) (X : mz_E) (n : Nat) (f : mz_H) {d a e ea sz si mv K : Nat} {g gi : Nat → Option Nat} {c : Nat → Nat} {x : Int32} (post : Option Value → Nat → mz_H → Prop) (h1 : f d = .inr (4, [.ref a, .int (nI sz)])) (h2 : f a = aQ 6 200 g) (hde : d ≠ e) (hdea : d ≠ ea) (hae : a ≠ e) (haea : a ≠ ea) (hee : e ≠ ea) (hP : Ps g sz c K) (hm : mv ≤ sz) (hs : sz ≤ 200) (hsi : si + mv ≤ 200) (hC : ∀ x, x < K → ∃ fs, f (172 + 2 * x) = .inr (2, fs)) (hlo : e < 172 ∧ ea < 172)
    (hend : mz_X G X 4 false b_Deck_moveFirst 5 none (r_Deck_moveFirst 0 0) post (fun _ _ _ => False) 32 [some (.ref d), some (.int x), some (.ref e), some (.int (nI mv)), some (.int (nI mv))] [] 0 0 n (mz_u (mz_u f ea (aQ 6 200 (apd g gi si mv))) e (.inr (4, [.ref ea, .int (nI (si + mv))])))) :
    ∀ m i, i + m = mv → mz_X G X 4 false b_Deck_moveFirst 5 none (r_Deck_moveFirst 0 0) post (fun _ _ _ => False) 9 [some (.ref d), some (.int x), some (.ref e), some (.int (nI mv)), some (.int (nI i))] [] 0 0 n (mz_u (mz_u f ea (aQ 6 200 (apd g gi si i))) e (.inr (4, [.ref ea, .int (nI (si + i))]))) := by
  intro m
  induction m with
  | zero =>
    intro i hi
    have : i = mv := by omega
    subst this
    refine mz_go [9, 32] 12 ?_
    simp only [mz_r0, ev_0, ev_1, ev_2, ev_3, ev_4, ev_5, ev_6, ev_7, ev_8, ev_9, ev_10, ev_11, ev_12, ev_13, ev_14, ev_15, ev_16, ev_17, ev_18, ev_19, ev_20, ev_21, ev_22, ev_23, ev_24, ev_25, ev_26, ev_27, ev_28, ev_29, ev_30, ev_31, ev_32, ev_33, ev_34, ev_35, ev_36, ev_37, ev_38, ev_39, ev_40, ev_41, ev_42, ev_43, ev_44, ev_45, ev_46, ev_47, ev_48, ev_49, ev_50, ev_51, ev_52, ev_53, ev_54, ev_55, ev_56, ev_57, ev_58, ev_59, ev_60, ev_61, ev_62, ev_63, ev_64, ev_65, ev_66, ev_67, ev_68, ev_69, ev_70, ev_71, ev_72, ev_73, ev_74, ev_75, ev_76, ev_77, ev_78, ev_79, ev_80, ev_81, ev_82, ev_83, mk_lit, mk_fin, mk_cat, mk_fit, mk_nar, mk_fld, mk_cls, mk_ty, mk_isr, List.mem_cons, List.not_mem_nil, or_false, or_true, false_or, true_or, Nat.reduceEqDiff, Nat.reduceAdd, Nat.reduceSub, Nat.reduceLT, Nat.reduceLeDiff, ↓reduceIte, if_true, if_false, List.getElem?_cons_zero, List.getElem?_cons_succ, List.set_cons_zero, List.set_cons_succ, List.length_cons, List.length_nil, mz_s1, mz_s2, mz_cl, true_and, and_true, false_and, and_false, List.append_nil, mk_b0, mk_b1, mk_b2, mk_bn, Value.int.injEq, Option.toList_some, Option.toList_none, List.cons_append, List.nil_append, Classical.not_not, Option.some.injEq, reduceCtorEq, ne_eq, not_true_eq_false, not_false_eq_true, false_implies, true_implies, mz_rl d_Deck_moveFirst_9, mz_rl d_Deck_moveFirst_11, mz_rl d_Deck_moveFirst_12, mz_rl d_Deck_moveFirst_15, mz_rl d_Deck_moveFirst_16, mz_rl d_Deck_moveFirst_17, mz_rl d_Deck_moveFirst_20, mz_rl d_Deck_moveFirst_22, mz_rl d_Deck_moveFirst_23, j_Deck_moveFirst_12, nF_4, nI_leI (show i < 2 ^ 31 by omega) (show i < 2 ^ 31 by omega), Nat.le_refl]
    exact hend
  | succ m ih =>
    intro i hi
    obtain ⟨H, hH⟩ : ∃ H, H = mz_u (mz_u f ea (aQ 6 200 (apd g gi si i))) e (.inr (4, [.ref ea, .int (nI (si + i))])) := ⟨_, rfl⟩
    rw [← hH]
    have ho : ∀ z, z ≠ e → z ≠ ea → H z = f z := fun z z1 z2 => by rw [hH, mz_u_n z1, mz_u_n z2]
    have k1 := (ho d hde hdea).trans h1
    have k2 := (ho a hae haea).trans h2
    have k3 : H e = .inr (4, [.ref ea, .int (nI (si + i))]) := by rw [hH]; exact mz_u_s _ _ _
    have k4 : H ea = aQ 6 200 (apd g gi si i) := by rw [hH, mz_u_n (Ne.symm hee), mz_u_s]
    have e1 := hP i (by omega)
    obtain ⟨fs, hfs⟩ := hC _ e1.2
    refine mz_go [23] 12 ?_
    simp only [mz_r0, ev_0, ev_1, ev_2, ev_3, ev_4, ev_5, ev_6, ev_7, ev_8, ev_9, ev_10, ev_11, ev_12, ev_13, ev_14, ev_15, ev_16, ev_17, ev_18, ev_19, ev_20, ev_21, ev_22, ev_23, ev_24, ev_25, ev_26, ev_27, ev_28, ev_29, ev_30, ev_31, ev_32, ev_33, ev_34, ev_35, ev_36, ev_37, ev_38, ev_39, ev_40, ev_41, ev_42, ev_43, ev_44, ev_45, ev_46, ev_47, ev_48, ev_49, ev_50, ev_51, ev_52, ev_53, ev_54, ev_55, ev_56, ev_57, ev_58, ev_59, ev_60, ev_61, ev_62, ev_63, ev_64, ev_65, ev_66, ev_67, ev_68, ev_69, ev_70, ev_71, ev_72, ev_73, ev_74, ev_75, ev_76, ev_77, ev_78, ev_79, ev_80, ev_81, ev_82, ev_83, mk_lit, mk_fin, mk_cat, mk_fit, mk_nar, mk_fld, mk_cls, mk_ty, mk_isr, List.mem_cons, List.not_mem_nil, or_false, or_true, false_or, true_or, Nat.reduceEqDiff, Nat.reduceAdd, Nat.reduceSub, Nat.reduceLT, Nat.reduceLeDiff, ↓reduceIte, if_true, if_false, List.getElem?_cons_zero, List.getElem?_cons_succ, List.set_cons_zero, List.set_cons_succ, List.length_cons, List.length_nil, mz_s1, mz_s2, mz_cl, true_and, and_true, false_and, and_false, List.append_nil, mk_b0, mk_b1, mk_b2, mk_bn, Value.int.injEq, Option.toList_some, Option.toList_none, List.cons_append, List.nil_append, Classical.not_not, Option.some.injEq, reduceCtorEq, ne_eq, not_true_eq_false, not_false_eq_true, false_implies, true_implies, mz_rl d_Deck_moveFirst_9, mz_rl d_Deck_moveFirst_11, mz_rl d_Deck_moveFirst_12, mz_rl d_Deck_moveFirst_15, mz_rl d_Deck_moveFirst_16, mz_rl d_Deck_moveFirst_17, mz_rl d_Deck_moveFirst_20, mz_rl d_Deck_moveFirst_22, mz_rl d_Deck_moveFirst_32, mz_rl d_Deck_moveFirst_33, mz_rl d_Deck_moveFirst_35, mz_rl d_Deck_moveFirst_37, mz_rl d_Deck_moveFirst_38, mz_rl d_Deck_moveFirst_41, mz_rl d_Deck_moveFirst_44, mz_rl d_Deck_moveFirst_45, mz_rl d_Deck_moveFirst_48, mz_rl d_Deck_moveFirst_50, mz_rl d_Deck_moveFirst_51, mz_rl d_Deck_moveFirst_52, mz_rl d_Deck_moveFirst_53, mz_rl d_Deck_moveFirst_56, mz_rl d_Deck_moveFirst_58, mz_rl d_Deck_moveFirst_59, mz_rl d_Deck_moveFirst_60, mz_rl d_Deck_moveFirst_63, mz_rl d_Deck_moveFirst_66, mz_rl d_Deck_moveFirst_67, mz_rl d_Deck_moveFirst_68, mz_rl d_Deck_moveFirst_71, mz_rl d_Deck_moveFirst_72, mz_rl d_Deck_moveFirst_73, mz_rl d_Deck_moveFirst_76, j_Deck_moveFirst_12, j_Deck_moveFirst_41, j_Deck_moveFirst_63, nF_4, nI_leI (show mv < 2 ^ 31 by omega) (show i < 2 ^ 31 by omega), show ¬ mv ≤ i by omega, k1, k2, vp_in_nI (show i < 200 by omega) (show 200 < 2 ^ 31 by decide), nI_clamp (show i < 2 ^ 31 by omega), e1.1, va_rf]
    refine mz_callV (by simp only [d_Deck_moveFirst_23, Nat.reduceAdd]) g_4_27 rfl (fun _ _ h => h) (c_Deck_add G X n H k3 k4 ((ho _ (by omega) (by omega)).trans hfs) (show si + i < 200 by omega)) k3 rfl rfl (by decide) (Nat.le_of_ble_eq_true rfl) rfl ?_; intro v_ n_ f_ h_; obtain ⟨rfl, hn_, hf_⟩ := h_; replace hn_ := hn_.symm; replace hf_ := hf_.symm; subst hn_; subst hf_
    rw [← e1.1, apd_up g gi si i, hH, mz_uc _ hee, mz_uu, mz_uu]
    refine mz_go [9] 12 ?_
    simp only [mz_r0, ev_0, ev_1, ev_2, ev_3, ev_4, ev_5, ev_6, ev_7, ev_8, ev_9, ev_10, ev_11, ev_12, ev_13, ev_14, ev_15, ev_16, ev_17, ev_18, ev_19, ev_20, ev_21, ev_22, ev_23, ev_24, ev_25, ev_26, ev_27, ev_28, ev_29, ev_30, ev_31, ev_32, ev_33, ev_34, ev_35, ev_36, ev_37, ev_38, ev_39, ev_40, ev_41, ev_42, ev_43, ev_44, ev_45, ev_46, ev_47, ev_48, ev_49, ev_50, ev_51, ev_52, ev_53, ev_54, ev_55, ev_56, ev_57, ev_58, ev_59, ev_60, ev_61, ev_62, ev_63, ev_64, ev_65, ev_66, ev_67, ev_68, ev_69, ev_70, ev_71, ev_72, ev_73, ev_74, ev_75, ev_76, ev_77, ev_78, ev_79, ev_80, ev_81, ev_82, ev_83, mk_lit, mk_fin, mk_cat, mk_fit, mk_nar, mk_fld, mk_cls, mk_ty, mk_isr, List.mem_cons, List.not_mem_nil, or_false, or_true, false_or, true_or, Nat.reduceEqDiff, Nat.reduceAdd, Nat.reduceSub, Nat.reduceLT, Nat.reduceLeDiff, ↓reduceIte, if_true, if_false, List.getElem?_cons_zero, List.getElem?_cons_succ, List.set_cons_zero, List.set_cons_succ, List.length_cons, List.length_nil, mz_s1, mz_s2, mz_cl, true_and, and_true, false_and, and_false, List.append_nil, mk_b0, mk_b1, mk_b2, mk_bn, Value.int.injEq, Option.toList_some, Option.toList_none, List.cons_append, List.nil_append, Classical.not_not, Option.some.injEq, reduceCtorEq, ne_eq, not_true_eq_false, not_false_eq_true, false_implies, true_implies, mz_rl d_Deck_moveFirst_26, mz_rl d_Deck_moveFirst_29, j_Deck_moveFirst_29, nF_4, nI_add]
    exact ih (i + 1) (by omega)
/-- the deck's own cards moved up by mv, those up to place i -/
def shf (g : Nat → Option Nat) (mv i : Nat) : Nat → Option Nat := fun j => if j + mv < i then g (j + mv) else g j
theorem shf_up (g : Nat → Option Nat) {mv i : Nat} (h : mv ≤ i) (hm : 0 < mv ∨ mv = 0) : va_up (shf g mv i) (i - mv) (g i) = shf g mv (i + 1) := by
  funext j
  unfold va_up shf
  by_cases e : j = i - mv
  · subst e
    rw [if_pos rfl, if_pos (by omega)]
    congr 1; omega
  · rw [if_neg e]
    by_cases h2 : j + mv < i
    · rw [if_pos h2, if_pos (by omega)]
    · rw [if_neg h2, if_neg (by omega)]
theorem shf_at (g : Nat → Option Nat) {mv i : Nat} : shf g mv i i = g i := by unfold shf; rw [if_neg (by omega)]
theorem l_Deck_moveFirst2 (G : mz_G) (X : mz_E) (n : Nat) (f : mz_H) {d a sz mv K : Nat} {g : Nat → Option Nat} {c : Nat → Nat} {x : Int32} {w2 : Option Value} (h1 : f d = .inr (4, [.ref a, .int (nI sz)])) (h2 : f a = aQ 6 200 g) (hP : Ps g sz c K) (hm : mv ≤ sz) (hs : sz ≤ 200) (hC : ∀ x, x < K → ∃ fs, f (172 + 2 * x) = .inr (2, fs)) (ha : a < 172) :
    ∀ m i, mv ≤ i → i + m = sz → mz_X G X 4 false b_Deck_moveFirst 5 none (r_Deck_moveFirst 0 0) (fun v n' f' => v = none ∧ n' = n ∧ f' = mz_u (mz_u f a (aQ 6 200 (shf g mv sz))) d (.inr (4, [.ref a, .int (nI (sz - mv))]))) (fun _ _ _ => False) 35 [some (.ref d), some (.int x), w2, some (.int (nI mv)), some (.int (nI i))] [] 0 0 n (mz_u f a (aQ 6 200 (shf g mv i))) := by
  have hda : d ≠ a := by rintro rfl; rw [h1] at h2; cases h2
  intro m
  induction m with
  | zero =>
    intro i hmi hi
    have : i = sz := by omega
    subst this
    refine mz_go [35] 30 ?_
    simp only [mz_r0, ev_0, ev_1, ev_2, ev_3, ev_4, ev_5, ev_6, ev_7, ev_8, ev_9, ev_10, ev_11, ev_12, ev_13, ev_14, ev_15, ev_16, ev_17, ev_18, ev_19, ev_20, ev_21, ev_22, ev_23, ev_24, ev_25, ev_26, ev_27, ev_28, ev_29, ev_30, ev_31, ev_32, ev_33, ev_34, ev_35, ev_36, ev_37, ev_38, ev_39, ev_40, ev_41, ev_42, ev_43, ev_44, ev_45, ev_46, ev_47, ev_48, ev_49, ev_50, ev_51, ev_52, ev_53, ev_54, ev_55, ev_56, ev_57, ev_58, ev_59, ev_60, ev_61, ev_62, ev_63, ev_64, ev_65, ev_66, ev_67, ev_68, ev_69, ev_70, ev_71, ev_72, ev_73, ev_74, ev_75, ev_76, ev_77, ev_78, ev_79, ev_80, ev_81, ev_82, ev_83, mk_lit, mk_fin, mk_cat, mk_fit, mk_nar, mk_fld, mk_cls, mk_ty, mk_isr, List.mem_cons, List.not_mem_nil, or_false, or_true, false_or, true_or, Nat.reduceEqDiff, Nat.reduceAdd, Nat.reduceSub, Nat.reduceLT, Nat.reduceLeDiff, ↓reduceIte, if_true, if_false, List.getElem?_cons_zero, List.getElem?_cons_succ, List.set_cons_zero, List.set_cons_succ, List.length_cons, List.length_nil, mz_s1, mz_s2, mz_cl, true_and, and_true, false_and, and_false, List.append_nil, mk_b0, mk_b1, mk_b2, mk_bn, Value.int.injEq, Option.toList_some, Option.toList_none, List.cons_append, List.nil_append, Classical.not_not, Option.some.injEq, reduceCtorEq, ne_eq, not_true_eq_false, not_false_eq_true, false_implies, true_implies, mz_rl d_Deck_moveFirst_35, mz_rl d_Deck_moveFirst_37, mz_rl d_Deck_moveFirst_38, mz_rl d_Deck_moveFirst_41, mz_rl d_Deck_moveFirst_44, mz_rl d_Deck_moveFirst_45, mz_rl d_Deck_moveFirst_48, mz_rl d_Deck_moveFirst_50, mz_rl d_Deck_moveFirst_51, mz_rl d_Deck_moveFirst_52, mz_rl d_Deck_moveFirst_53, mz_rl d_Deck_moveFirst_56, mz_rl d_Deck_moveFirst_58, mz_rl d_Deck_moveFirst_59, mz_rl d_Deck_moveFirst_60, mz_rl d_Deck_moveFirst_63, mz_rl d_Deck_moveFirst_66, mz_rl d_Deck_moveFirst_67, mz_rl d_Deck_moveFirst_68, mz_rl d_Deck_moveFirst_71, mz_rl d_Deck_moveFirst_72, mz_rl d_Deck_moveFirst_73, mz_rl d_Deck_moveFirst_76, j_Deck_moveFirst_41, j_Deck_moveFirst_63, nF_4, h1, mz_u_n hda, nI_leI (show i < 2 ^ 31 by omega) (show i < 2 ^ 31 by omega), Nat.le_refl, pk_sub hm]
  | succ m ih =>
    intro i hmi hi
    have e1 := hP i (by omega)
    obtain ⟨fs, hfs⟩ := hC _ e1.2
    have es := shf_at g (mv := mv) (i := i)
    refine mz_go [35] 30 ?_
    simp only [mz_r0, ev_0, ev_1, ev_2, ev_3, ev_4, ev_5, ev_6, ev_7, ev_8, ev_9, ev_10, ev_11, ev_12, ev_13, ev_14, ev_15, ev_16, ev_17, ev_18, ev_19, ev_20, ev_21, ev_22, ev_23, ev_24, ev_25, ev_26, ev_27, ev_28, ev_29, ev_30, ev_31, ev_32, ev_33, ev_34, ev_35, ev_36, ev_37, ev_38, ev_39, ev_40, ev_41, ev_42, ev_43, ev_44, ev_45, ev_46, ev_47, ev_48, ev_49, ev_50, ev_51, ev_52, ev_53, ev_54, ev_55, ev_56, ev_57, ev_58, ev_59, ev_60, ev_61, ev_62, ev_63, ev_64, ev_65, ev_66, ev_67, ev_68, ev_69, ev_70, ev_71, ev_72, ev_73, ev_74, ev_75, ev_76, ev_77, ev_78, ev_79, ev_80, ev_81, ev_82, ev_83, mk_lit, mk_fin, mk_cat, mk_fit, mk_nar, mk_fld, mk_cls, mk_ty, mk_isr, List.mem_cons, List.not_mem_nil, or_false, or_true, false_or, true_or, Nat.reduceEqDiff, Nat.reduceAdd, Nat.reduceSub, Nat.reduceLT, Nat.reduceLeDiff, ↓reduceIte, if_true, if_false, List.getElem?_cons_zero, List.getElem?_cons_succ, List.set_cons_zero, List.set_cons_succ, List.length_cons, List.length_nil, mz_s1, mz_s2, mz_cl, true_and, and_true, false_and, and_false, List.append_nil, mk_b0, mk_b1, mk_b2, mk_bn, Value.int.injEq, Option.toList_some, Option.toList_none, List.cons_append, List.nil_append, Classical.not_not, Option.some.injEq, reduceCtorEq, ne_eq, not_true_eq_false, not_false_eq_true, false_implies, true_implies, mz_rl d_Deck_moveFirst_35, mz_rl d_Deck_moveFirst_37, mz_rl d_Deck_moveFirst_38, mz_rl d_Deck_moveFirst_41, mz_rl d_Deck_moveFirst_44, mz_rl d_Deck_moveFirst_45, mz_rl d_Deck_moveFirst_48, mz_rl d_Deck_moveFirst_50, mz_rl d_Deck_moveFirst_51, mz_rl d_Deck_moveFirst_52, mz_rl d_Deck_moveFirst_53, mz_rl d_Deck_moveFirst_56, mz_rl d_Deck_moveFirst_58, mz_rl d_Deck_moveFirst_59, mz_rl d_Deck_moveFirst_60, mz_rl d_Deck_moveFirst_63, mz_rl d_Deck_moveFirst_66, mz_rl d_Deck_moveFirst_67, mz_rl d_Deck_moveFirst_68, mz_rl d_Deck_moveFirst_71, mz_rl d_Deck_moveFirst_72, mz_rl d_Deck_moveFirst_73, mz_rl d_Deck_moveFirst_76, j_Deck_moveFirst_41, j_Deck_moveFirst_63, nF_4, h1, mz_u_n hda, nI_leI (show sz < 2 ^ 31 by omega) (show i < 2 ^ 31 by omega), show ¬ sz ≤ i by omega, mz_u_s, pk_sub hmi, vp_in_nI (show i < 200 by omega) (show 200 < 2 ^ 31 by decide), nI_clamp (show i < 2 ^ 31 by omega), vp_in_nI (show i - mv < 200 by omega) (show 200 < 2 ^ 31 by decide), nI_clamp (show i - mv < 2 ^ 31 by omega), es, e1.1, va_rf, mz_u_n (show 172 + 2 * c i ≠ a by omega), hfs, mz_uu, nI_add]
    rw [← e1.1, shf_up g hmi (by omega)]
    exact ih (i + 1) (by omega) (by omega)
theorem c_Deck_moveFirst (G : mz_G) (X : mz_E) (n : Nat) (f : mz_H) {d a e ea sz si mv K : Nat} {c ci : Nat → Nat} {x : Int32} (hx : (if x < nI 0 then nI 0 else x) = nI mv) (hd : Dk f d a sz K c) (he : Dk f e ea si K ci) (hda : d ≠ a) (hde : d ≠ e) (hdea : d ≠ ea) (hae : a ≠ e) (haea : a ≠ ea) (hee : e ≠ ea) (hm : mv ≤ sz) (hs : sz ≤ 200) (hsi : si + mv ≤ 200) (hC : ∀ x, x < K → ∃ fs, f (172 + 2 * x) = .inr (2, fs)) (hlo : d < 172 ∧ a < 172 ∧ e < 172 ∧ ea < 172) :
    mz_Ct G X y_Deck_moveFirst b_Deck_moveFirst 5 none (r_Deck_moveFirst 0 0) [.ref d, .int x, .ref e] n f (fun v n' F' => v = none ∧ n' = n ∧ (∀ z, z ≠ d → z ≠ a → z ≠ e → z ≠ ea → F' z = f z) ∧ Dk F' d a (sz - mv) K (fun j => c (j + mv)) ∧ Dk F' e ea (si + mv) K (fun j => if j < si then ci j else c (j - si))) := by
  obtain ⟨g, h1, h2, hP⟩ := id hd
  obtain ⟨gi, h3, h4, hPi⟩ := id he
  refine mk_Ct 4 false [some (.ref d), some (.int x), some (.ref e), none, none] (by decide) rfl (by decide) (Nat.le_of_ble_eq_true rfl) rfl ?_
  refine mz_go [2] 12 ?_
  simp only [mz_r0, ev_0, ev_1, ev_2, ev_3, ev_4, ev_5, ev_6, ev_7, ev_8, ev_9, ev_10, ev_11, ev_12, ev_13, ev_14, ev_15, ev_16, ev_17, ev_18, ev_19, ev_20, ev_21, ev_22, ev_23, ev_24, ev_25, ev_26, ev_27, ev_28, ev_29, ev_30, ev_31, ev_32, ev_33, ev_34, ev_35, ev_36, ev_37, ev_38, ev_39, ev_40, ev_41, ev_42, ev_43, ev_44, ev_45, ev_46, ev_47, ev_48, ev_49, ev_50, ev_51, ev_52, ev_53, ev_54, ev_55, ev_56, ev_57, ev_58, ev_59, ev_60, ev_61, ev_62, ev_63, ev_64, ev_65, ev_66, ev_67, ev_68, ev_69, ev_70, ev_71, ev_72, ev_73, ev_74, ev_75, ev_76, ev_77, ev_78, ev_79, ev_80, ev_81, ev_82, ev_83, mk_lit, mk_fin, mk_cat, mk_fit, mk_nar, mk_fld, mk_cls, mk_ty, mk_isr, List.mem_cons, List.not_mem_nil, or_false, or_true, false_or, true_or, Nat.reduceEqDiff, Nat.reduceAdd, Nat.reduceSub, Nat.reduceLT, Nat.reduceLeDiff, ↓reduceIte, if_true, if_false, List.getElem?_cons_zero, List.getElem?_cons_succ, List.set_cons_zero, List.set_cons_succ, List.length_cons, List.length_nil, mz_s1, mz_s2, mz_cl, true_and, and_true, false_and, and_false, List.append_nil, mk_b0, mk_b1, mk_b2, mk_bn, Value.int.injEq, Option.toList_some, Option.toList_none, List.cons_append, List.nil_append, Classical.not_not, Option.some.injEq, reduceCtorEq, ne_eq, not_true_eq_false, not_false_eq_true, false_implies, true_implies, mz_rl d_Deck_moveFirst_0, mz_rl d_Deck_moveFirst_1, nF_4]
  refine mz_mmax (by simp only [d_Deck_moveFirst, Nat.reduceAdd]) w_max_4 (by decide) (Nat.le_of_ble_eq_true rfl) ?_
  rw [hx]
  refine mz_go [9] 12 ?_
  simp only [mz_r0, ev_0, ev_1, ev_2, ev_3, ev_4, ev_5, ev_6, ev_7, ev_8, ev_9, ev_10, ev_11, ev_12, ev_13, ev_14, ev_15, ev_16, ev_17, ev_18, ev_19, ev_20, ev_21, ev_22, ev_23, ev_24, ev_25, ev_26, ev_27, ev_28, ev_29, ev_30, ev_31, ev_32, ev_33, ev_34, ev_35, ev_36, ev_37, ev_38, ev_39, ev_40, ev_41, ev_42, ev_43, ev_44, ev_45, ev_46, ev_47, ev_48, ev_49, ev_50, ev_51, ev_52, ev_53, ev_54, ev_55, ev_56, ev_57, ev_58, ev_59, ev_60, ev_61, ev_62, ev_63, ev_64, ev_65, ev_66, ev_67, ev_68, ev_69, ev_70, ev_71, ev_72, ev_73, ev_74, ev_75, ev_76, ev_77, ev_78, ev_79, ev_80, ev_81, ev_82, ev_83, mk_lit, mk_fin, mk_cat, mk_fit, mk_nar, mk_fld, mk_cls, mk_ty, mk_isr, List.mem_cons, List.not_mem_nil, or_false, or_true, false_or, true_or, Nat.reduceEqDiff, Nat.reduceAdd, Nat.reduceSub, Nat.reduceLT, Nat.reduceLeDiff, ↓reduceIte, if_true, if_false, List.getElem?_cons_zero, List.getElem?_cons_succ, List.set_cons_zero, List.set_cons_succ, List.length_cons, List.length_nil, mz_s1, mz_s2, mz_cl, true_and, and_true, false_and, and_false, List.append_nil, mk_b0, mk_b1, mk_b2, mk_bn, Value.int.injEq, Option.toList_some, Option.toList_none, List.cons_append, List.nil_append, Classical.not_not, Option.some.injEq, reduceCtorEq, ne_eq, not_true_eq_false, not_false_eq_true, false_implies, true_implies, mz_rl d_Deck_moveFirst_5, mz_rl d_Deck_moveFirst_6, mz_rl d_Deck_moveFirst_7, nF_4]
  have hid : mz_u (mz_u f ea (aQ 6 200 (apd g gi si 0))) e (.inr (4, [.ref ea, .int (nI (si + 0))])) = f := by
    have : apd g gi si 0 = gi := by funext j; unfold apd; rw [if_neg (by omega)]
    rw [this, mz_ui h4, Nat.add_zero, mz_ui h3]
  have := l_Deck_moveFirst1 G X n f (gi := gi) (x := x) (fun v n' F' => v = none ∧ n' = n ∧ (∀ z, z ≠ d → z ≠ a → z ≠ e → z ≠ ea → F' z = f z) ∧ Dk F' d a (sz - mv) K (fun j => c (j + mv)) ∧ Dk F' e ea (si + mv) K (fun j => if j < si then ci j else c (j - si))) h1 h2 hde hdea hae haea hee hP hm hs hsi hC ⟨hlo.2.2.1, hlo.2.2.2⟩ ?_ mv 0 (by omega)
  · rw [hid] at this
    exact this
  · obtain ⟨H, hH⟩ : ∃ H, H = mz_u (mz_u f ea (aQ 6 200 (apd g gi si mv))) e (.inr (4, [.ref ea, .int (nI (si + mv))])) := ⟨_, rfl⟩
    rw [← hH]
    have ho : ∀ z, z ≠ e → z ≠ ea → H z = f z := fun z z1 z2 => by rw [hH, mz_u_n z1, mz_u_n z2]
    have k1 := (ho d hde hdea).trans h1
    have k2 := (ho a hae haea).trans h2
    have kC : ∀ x, x < K → ∃ fs, H (172 + 2 * x) = .inr (2, fs) := fun x hx => by
      obtain ⟨fs, hfs⟩ := hC x hx
      exact ⟨fs, (ho _ (by omega) (by omega)).trans hfs⟩
    refine mz_go [35] 12 ?_
    simp only [mz_r0, ev_0, ev_1, ev_2, ev_3, ev_4, ev_5, ev_6, ev_7, ev_8, ev_9, ev_10, ev_11, ev_12, ev_13, ev_14, ev_15, ev_16, ev_17, ev_18, ev_19, ev_20, ev_21, ev_22, ev_23, ev_24, ev_25, ev_26, ev_27, ev_28, ev_29, ev_30, ev_31, ev_32, ev_33, ev_34, ev_35, ev_36, ev_37, ev_38, ev_39, ev_40, ev_41, ev_42, ev_43, ev_44, ev_45, ev_46, ev_47, ev_48, ev_49, ev_50, ev_51, ev_52, ev_53, ev_54, ev_55, ev_56, ev_57, ev_58, ev_59, ev_60, ev_61, ev_62, ev_63, ev_64, ev_65, ev_66, ev_67, ev_68, ev_69, ev_70, ev_71, ev_72, ev_73, ev_74, ev_75, ev_76, ev_77, ev_78, ev_79, ev_80, ev_81, ev_82, ev_83, mk_lit, mk_fin, mk_cat, mk_fit, mk_nar, mk_fld, mk_cls, mk_ty, mk_isr, List.mem_cons, List.not_mem_nil, or_false, or_true, false_or, true_or, Nat.reduceEqDiff, Nat.reduceAdd, Nat.reduceSub, Nat.reduceLT, Nat.reduceLeDiff, ↓reduceIte, if_true, if_false, List.getElem?_cons_zero, List.getElem?_cons_succ, List.set_cons_zero, List.set_cons_succ, List.length_cons, List.length_nil, mz_s1, mz_s2, mz_cl, true_and, and_true, false_and, and_false, List.append_nil, mk_b0, mk_b1, mk_b2, mk_bn, Value.int.injEq, Option.toList_some, Option.toList_none, List.cons_append, List.nil_append, Classical.not_not, Option.some.injEq, reduceCtorEq, ne_eq, not_true_eq_false, not_false_eq_true, false_implies, true_implies, mz_rl d_Deck_moveFirst_9, mz_rl d_Deck_moveFirst_11, mz_rl d_Deck_moveFirst_12, mz_rl d_Deck_moveFirst_15, mz_rl d_Deck_moveFirst_16, mz_rl d_Deck_moveFirst_17, mz_rl d_Deck_moveFirst_20, mz_rl d_Deck_moveFirst_22, mz_rl d_Deck_moveFirst_23, mz_rl d_Deck_moveFirst_32, mz_rl d_Deck_moveFirst_33, j_Deck_moveFirst_12, nF_4]
    have e0 : shf g mv mv = g := by funext j; unfold shf; rw [if_neg (by omega)]
    have := l_Deck_moveFirst2 G X n H (x := x) (w2 := some (.ref e)) k1 k2 hP hm hs kC hlo.2.1 (sz - mv) mv (by omega) (by omega)
    rw [e0, mz_ui k2] at this
    refine mz_mono ?_ this
    rintro v n' f' ⟨rfl, rfl, rfl⟩
    refine ⟨rfl, rfl, fun z z1 z2 z3 z4 => by rw [mz_u_n z1, mz_u_n z2, ho z z3 z4], ⟨_, mz_u_s _ _ _, by rw [mz_u_n (Ne.symm hda), mz_u_s], fun j hj => ?_⟩, ⟨apd g gi si mv, ?_, ?_, fun j hj => ?_⟩⟩
    · unfold shf
      rw [if_pos (by omega)]
      exact hP (j + mv) (by omega)
    · rw [mz_u_n (Ne.symm hde), mz_u_n (Ne.symm hae), hH]; exact mz_u_s _ _ _
    · rw [mz_u_n (Ne.symm hdea), mz_u_n (Ne.symm haea), hH, mz_u_n (Ne.symm hee), mz_u_s]
    · unfold apd
      by_cases h : j < si
      · rw [if_neg (by omega)]; simp only [h, if_true]; exact hPi j h
      · rw [if_pos (by omega)]; simp only [h, if_false]; exact hP (j - si) (by omega)
