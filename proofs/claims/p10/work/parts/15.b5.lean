/-! the law's state: class and reference side by side, one value -/
abbrev aL (N : Nat) (g : Nat → Int64) : mz_C := .inl (3, N, .inr (.inl g))
/-- the class has gone on, the reference not yet -/
def LM (f : mz_H) (n K : Nat) (sz : Nat → Nat) (cd s : Nat → Nat → Nat) (K1 : Nat) (sz1 : Nat → Nat) (cd1 s1 : Nat → Nat → Nat) (B : bS) (m : mS) (u : tT) (m1 : mS) (u1 : tT) : Prop := CI f n K1 sz1 cd1 s1 ∧ MJ f K sz cd s ∧ (∃ g, f 171 = aL 1 g) ∧ bOk B ∧ BX f B ∧ MX f B ∧ MC f m1 ∧ TT f u1 ∧ MT f m u
def LSt (f : mz_H) (n K : Nat) (sz : Nat → Nat) (cd s : Nat → Nat → Nat) (B : bS) (m : mS) (u : tT) : Prop := LM f n K sz cd s K sz cd s B m u m u
def LI (f : mz_H) (n : Nat) : Prop := ∃ K sz cd s B m u, LSt f n K sz cd s B m u
theorem CI_eq {f F : mz_H} {n K : Nat} {sz : Nat → Nat} {cd s : Nat → Nat → Nat} (h : CI f n K sz cd s) (he : ∀ q, (q < 158 ∨ 171 < q) → F q = f q) : CI F n K sz cd s := by
  obtain ⟨x, h1, h2, h3, h4, h5, h6, h7⟩ := h
  refine ⟨x, h1, h2, CM_eq h3 (fun q hq => he q (by omega)) (he _ (by omega)), Tb_eq h4 (fun q _ hq => he q (by omega)), fun i hi => ?_, CD_eq h6 (fun q _ hq => he q (by omega)), Cd_eq h7 h2 (fun q hq _ => he q (by omega))⟩
  obtain ⟨w, A, T, L, q1, q2⟩ := h5 i hi
  refine ⟨w, A, T, L, ?_, q2⟩
  unfold Bd
  rw [he _ (by omega), he _ (by omega), he _ (by omega), he _ (by omega)]
  exact q1
theorem MJ_eq {f F : mz_H} {K : Nat} {S : Nat → Nat} {cD sD : Nat → Nat → Nat} (h : MJ f K S cD sD) (he : ∀ q, 158 ≤ q → q ≤ 170 → F q = f q) : MJ F K S cD sD := by
  obtain ⟨ln, W, h1, h2⟩ := h
  exact ⟨ln, W, ⟨Mc_eq h1.1 (he _ (by decide) (by decide)), Md_eq h1.2.1 (he _ (by decide) (by decide)) (he _ (by decide) (by decide)), Mw_eq h1.2.2.1 (he _ (by decide) (by decide)) (he _ (by decide) (by decide)) (he _ (by decide) (by decide)), Mx_eq h1.2.2.2 (fun q hq => he q (by omega) (by omega))⟩, h2⟩
theorem MJ_c {f : mz_H} {K : Nat} {S : Nat → Nat} {cD cE sD : Nat → Nat → Nat} (h : MJ f K S cD sD) (e : ∀ d i, d < 8 → i < S d → cD d i = cE d i) : MJ f K S cE sD := by
  obtain ⟨ln, W, h1, h2⟩ := h
  exact ⟨ln, W, cD_ext h1 e, h2⟩
theorem MJ_s {f : mz_H} {K : Nat} {S : Nat → Nat} {cD sD sE : Nat → Nat → Nat} (h : MJ f K S cD sD) (e : ∀ x j, x < K → j < 16 → sD x j = sE x j) : MJ f K S cD sE := by
  obtain ⟨ln, W, h1, h2⟩ := h
  exact ⟨ln, W, sD_ext h1 e, h2⟩
theorem MC_o {f F : mz_H} {m : mS} (h : MC f m) (he : ∀ q, q < 158 → F q = f q) : MC F m := ⟨(he 4 (by decide)).trans h.1, (he 5 (by decide)).trans h.2.1, (he 8 (by decide)).trans h.2.2⟩
theorem TT_o {f F : mz_H} {u : tT} (h : TT f u) (he : ∀ q, q < 158 → F q = f q) : TT F u := TT_eq h (fun q hq => he q (by omega))
/-- behind a call of the class -/
theorem LM_C {f F : mz_H} {n n' K K1 : Nat} {sz sz1 : Nat → Nat} {cd s cd1 s1 : Nat → Nat → Nat} {B : bS} {m : mS} {u : tT} {φ : mS → mS} (h : LSt f n K sz cd s B m u) (hC : CI F n' K1 sz1 cd1 s1) (hF : FrB f F) (hU : MU f F φ) : LM F n' K sz cd s K1 sz1 cd1 s1 B m u (φ m) u := by
  obtain ⟨h1, h2, ⟨g, e⟩, h4, h5, h6, h7, h8, h9⟩ := h
  exact ⟨hC, MJ_eq h2 (fun q a b => hF q (by omega) (by omega)), ⟨g, (hF 171 (by decide) (by decide)).trans e⟩, h4, BX_eq h5 (fun q a b => hF q (by omega) (by omega)), MX_eq h6 (fun q a b => hF q (by omega) (by omega)), hU m h7, TT_B h8 hF, MT_eq h9 (fun q a b => hF q (by omega) (by omega))⟩
/-- the same, with the tabulator changed -/
theorem LM_Y {f F : mz_H} {n n' K K1 : Nat} {sz sz1 : Nat → Nat} {cd s cd1 s1 : Nat → Nat → Nat} {B : bS} {m : mS} {u u1 : tT} {φ : mS → mS} (h : LSt f n K sz cd s B m u) (hC : CI F n' K1 sz1 cd1 s1) (hF : FrY f F) (hU : MU f F φ) (hX : TT F u1) : LM F n' K sz cd s K1 sz1 cd1 s1 B m u (φ m) u1 := by
  obtain ⟨h1, h2, ⟨g, e⟩, h4, h5, h6, h7, h8, h9⟩ := h
  exact ⟨hC, MJ_eq h2 (fun q a b => hF q (by omega) (by omega)), ⟨g, (hF 171 (by decide) (by decide)).trans e⟩, h4, BX_eq h5 (fun q a b => hF q (by omega) (by omega)), MX_eq h6 (fun q a b => hF q (by omega) (by omega)), hU m h7, hX, MT_eq h9 (fun q a b => hF q (by omega) (by omega))⟩
theorem LM_o {f : mz_H} {n K K1 : Nat} {sz sz1 : Nat → Nat} {cd s cd1 s1 : Nat → Nat → Nat} {B : bS} {m m1 : mS} {u u1 : tT} (h : LM f n K sz cd s K1 sz1 cd1 s1 B m u m1 u1) (g : Nat → Int64) : LM (mz_u f 171 (aL 1 g)) n K sz cd s K1 sz1 cd1 s1 B m u m1 u1 := by
  obtain ⟨h1, h2, h3, h4, h5, h6, h7, h8, h9⟩ := h
  exact ⟨CI_eq h1 (fun q hq => mz_u_n (by omega)), MJ_eq h2 (fun q a b => mz_u_n (by omega)), ⟨g, mz_u_s _ _ _⟩, h4, BX_eq h5 (fun q a b => mz_u_n (by omega)), MX_eq h6 (fun q a b => mz_u_n (by omega)), MC_o h7 (fun q a => mz_u_n (by omega)), TT_o h8 (fun q a => mz_u_n (by omega)), MT_eq h9 (fun q a b => mz_u_n (by omega))⟩
/-- behind a call of the reference -/
theorem LI_T {f F : mz_H} {n K K1 : Nat} {sz sz1 : Nat → Nat} {cd s cd1 s1 : Nat → Nat → Nat} {B : bS} {m : mS} {u : tT} {k : Int32} {φ : mS → mS} (h : LM f n K sz cd s K1 sz1 cd1 s1 B m u (φ m) u) (hM : MJ F K1 sz1 cd1 s1) (hF : FrC f F) (hq : thq f F k φ) : LI F n := by
  obtain ⟨h1, h2, ⟨g, e⟩, h4, h5, h6, h7, h8, h9⟩ := h
  exact ⟨K1, sz1, cd1, s1, B, φ m, u, CI_eq h1 (fun q hq => hF q (by omega)), hM, ⟨g, (hF 171 (by decide)).trans e⟩, h4, BX_eq h5 (fun q a b => hF q (by omega)), MX_eq h6 (fun q a b => hF q (by omega)), MC_o h7 (fun q a => hF q (by omega)), TT_o h8 (fun q a => hF q (by omega)), MT_q h9 hq hF⟩
/-- the same, of the tabulator -/
theorem LI_U {f F : mz_H} {n K K1 : Nat} {sz sz1 : Nat → Nat} {cd s cd1 s1 : Nat → Nat → Nat} {B : bS} {m m1 : mS} {u u1 : tT} (h : LM f n K sz cd s K1 sz1 cd1 s1 B m u m1 u1) (hM : MJ F K1 sz1 cd1 s1) (hF : FrO f F) (hT : MT F m1 u1) : LI F n := by
  obtain ⟨h1, h2, ⟨g, e⟩, h4, h5, h6, h7, h8, h9⟩ := h
  exact ⟨K1, sz1, cd1, s1, B, m1, u1, CI_eq h1 (fun q hq => hF q (by omega)), hM, ⟨g, (hF 171 (by decide)).trans e⟩, h4, BX_eq h5 (fun q a b => hF q (by omega)), MX_eq h6 (fun q a b => hF q (by omega)), MC_o h7 (fun q a => hF q (by omega)), TT_o h8 (fun q a => hF q (by omega)), hT⟩
theorem MT_q2 {f F : mz_H} {m : mS} {u : tT} {k : Int32} {φ : mS → mS} (h : MT f m u) (hq : thq f F k φ) (h1 : F 168 = f 168) (h2 : F 170 = f 170) : MT F (φ m) u := by
  obtain ⟨⟨t, k0, e⟩, ⟨g, e8, h8⟩, ⟨g2, e9, h9⟩, hl⟩ := id h
  have w := MT_q (F := fun q => if q = 158 then F 158 else f q) h (by
    obtain ⟨t0, k0, l, m0, k1, q0, q1⟩ := hq
    exact ⟨t0, k0, l, m0, k1, q0, (if_pos rfl).trans q1⟩) (fun q hq => if_neg (by omega))
  obtain ⟨⟨t', k', e'⟩, -⟩ := w
  exact ⟨⟨t', k', (if_pos rfl).symm.trans e'⟩, ⟨g, h1.trans e8, h8⟩, ⟨g2, h2.trans e9, h9⟩, hl⟩
/-- behind a call of both that changes the boards -/
theorem LI_B {f f1 F : mz_H} {n K : Nat} {sz : Nat → Nat} {cd s : Nat → Nat → Nat} {B B' : bS} {m : mS} {u : tT} (h : LSt f n K sz cd s B m u) (hC : CI f1 n K sz cd s) (hF : FrM f f1) (hX : BX f1 B') (hM : MJ F K sz cd s) (hF2 : FrE f1 F) (hk : bOk B') (hY : MX F B') : LI F n := by
  obtain ⟨h1, h2, ⟨g, e⟩, h4, h5, h6, h7, h8, h9⟩ := h
  have hF3 := hF2.1
  exact ⟨K, sz, cd, s, B', m, u, CI_eq hC (fun q hq => hF3 q (by omega)), hM, ⟨g, (hF3 171 (by decide)).trans ((hF 171 (by decide)).trans e)⟩, hk, BX_eq hX (fun q a b => hF3 q (by omega)), hY, MC_o (MC_M h7 hF) (fun q a => hF3 q (by omega)), TT_o (TT_M h8 hF) (fun q a => hF3 q (by omega)), MT_q2 (φ := no_U) (MT_eq h9 (fun q a b => hF q (by omega))) hF2.2 (hF3 168 (by decide)) (hF3 170 (by decide))⟩
theorem LM_0 {f : mz_H} {n K K1 : Nat} {sz sz1 : Nat → Nat} {cd s cd1 s1 : Nat → Nat → Nat} {B : bS} {m m1 : mS} {u u1 : tT} (h : LM f n K sz cd s K1 sz1 cd1 s1 B m u m1 u1) : f 0 = .inr (0, [.ref 1, .ref 2, .ref 3, .ref 4, .ref 5, .ref 8, .ref 13, .ref 16]) := by
  obtain ⟨x, h1, h2, h3, h4, h5, h6, h7⟩ := h.1
  exact h3.1
theorem LM_158 {f : mz_H} {n K K1 : Nat} {sz sz1 : Nat → Nat} {cd s cd1 s1 : Nat → Nat → Nat} {B : bS} {m m1 : mS} {u u1 : tT} (h : LM f n K sz cd s K1 sz1 cd1 s1 B m u m1 u1) : ∃ fs, f 158 = .inr (11, fs) := by
  obtain ⟨ln, W, t, p, b, u, a, h1, h2, e⟩ := MI_t h.2.1
  exact ⟨_, e⟩
/-- what a wrapper of the law leaves: 0 and the answer, or a number of the throw -/
def WP (f : mz_H) (n : Nat) (P : Option Value → Nat → mz_H → Prop) (T : Nat → Prop) (v : Option Value) (n' : Nat) (f' : mz_H) : Prop := (∃ r f1 g, v = some (.int (nI 0)) ∧ P (some (.int r)) n' f1 ∧ f' = mz_u f1 171 (aL 1 g) ∧ g 0 = r.toInt64) ∨ (∃ k, v = some (.int (nI k)) ∧ T k ∧ n' = n ∧ f' = f)
/-- class and reference agree -/
def AG (v1 v2 : Option Value) (f2 : mz_H) : Prop := ∃ k r g, k < 3 ∧ v1 = some (.int (nI k)) ∧ v2 = some (.int r) ∧ thr f2 (nI k) ∧ f2 171 = aL 1 g ∧ (k = 0 → g 0 = r.toInt64)
theorem AG_0 {f1 f2 : mz_H} {r : Int32} {g : Nat → Int64} (h : f1 171 = aL 1 g) (hg : g 0 = r.toInt64) (hF : FrC f1 f2) (ht : thr f2 (nI 0)) : AG (some (.int (nI 0))) (some (.int r)) f2 := ⟨0, r, g, by decide, rfl, rfl, ht, (hF 171 (by decide)).trans h, fun _ => hg⟩
theorem AG_k {f1 f2 : mz_H} {k : Nat} (hk : 0 < k) (hk3 : k < 3) (h : ∃ g, f1 171 = aL 1 g) (hF : FrC f1 f2) (ht : thr f2 (nI k)) : AG (some (.int (nI k))) (some (.int (nI 0))) f2 := by
  obtain ⟨g, e⟩ := h
  exact ⟨k, nI 0, g, hk3, rfl, rfl, ht, (hF 171 (by decide)).trans e, fun z => by omega⟩
theorem n8 {a b : Nat} (ha : a < 200) (hb : b < 200) (h : nI a = nI b) : a = b := (nI_eq (by omega) (by omega)).mp h
theorem nII {a : Nat} (ha : a < 2 ^ 31) : (nI a).toInt = a := mk_nti ha
theorem ok8 {a : Nat} (h : a < 8) : 0 ≤ (nI a).toInt ∧ (nI a).toInt < 8 := by rw [nII (by omega)]; omega
theorem ok16 {a : Nat} (h : a < 16) : 0 ≤ (nI a).toInt ∧ (nI a).toInt < 16 := by rw [nII (by omega)]; omega
theorem ok4 {a : Nat} (h : a < 4) : 0 ≤ (nI a).toInt ∧ (nI a).toInt < 4 := by rw [nII (by omega)]; omega
theorem okF8 {a b : Nat} (h : a ≤ b) (h2 : b < 16) : 0 ≤ (nI a).toInt ∧ (nI a).toInt ≤ (nI b).toInt ∧ (nI b).toInt < 16 := by rw [nII (by omega), nII (by omega)]; omega
theorem okN8 {a b : Nat} (ha : a < 8) (hb : b < 8) (h : a ≠ b) : (nI a).toInt ≠ (nI b).toInt := by rw [nII (by omega), nII (by omega)]; omega
/-! the calls, one by one -/
section TIE
variable {f f1 f2 : mz_H} {n n1 n2 K : Nat} {sz : Nat → Nat} {cd s : Nat → Nat → Nat} {B : bS} {m0 : mS} {u0 : tT} {v1 v2 : Option Value}
theorem t_pass {x y : Int32} {z : Bool} (h : LSt f n K sz cd s B m0 u0) (hW : WP f n (psP f n K sz cd s x y z) (fun k => k = 1 ∧ ¬ okPs x y) v1 n1 f1) (hM : psM n1 f1 K sz cd s x y z v2 n2 f2) : LI f2 n2 ∧ AG v1 v2 f2 := by
  obtain ⟨rfl, hF2, hM⟩ := hM
  rcases hW with ⟨r, fa, g, rfl, ⟨i, j, c', hi, rfl, hj, rfl, hv, rfl, hC, hF, hU, hc'⟩, rfl, hg⟩ | ⟨k, rfl, ⟨rfl, hno⟩, rfl, rfl⟩
  · cases hv
    have h1 := LM_o (LM_C h hC hF hU) g
    rcases hM with ⟨i', j', c2, hi', ei, hj', ej, rfl, hMJ, hc2, ht⟩ | ⟨hno, -⟩
    · have := n8 (by omega) (by omega) ei
      subst this
      have := n8 (by omega) (by omega) ej
      subst this
      refine ⟨LI_T h1 (MJ_c hMJ (fun d m hd hm => ?_)) hF2 ht, AG_0 (mz_u_s _ _ _) hg hF2 (thq_r ht)⟩
      by_cases e : d = i
      · subst e
        rw [va_up_s, va_up_s]
        obtain ⟨x9, h9, h3, h4, h5, h6, h7, h8⟩ := h.1
        have hq : ∀ q, q < sz d → pk s j z (cd d q) < 11 := fun q hq => by
          obtain ⟨g9, e1, e2, e3⟩ := h7.1 d hi
          exact pok_lt ((h8 _ (e3 q hq).2).2.2 j hj)
        obtain ⟨q, hq1, hq2⟩ := posP_onto hq hm
        rw [← hq2, hc2 q hq1, hc' q hq1]
      · rw [va_up_n e, va_up_n e]
    · exact absurd ⟨ok8 hi, ok16 hj⟩ hno
  · rcases hM with ⟨i', j', c2, hi', rfl, hj', rfl, -⟩ | ⟨_, rfl, hMJ, ht⟩
    · exact absurd ⟨ok8 hi', ok16 hj'⟩ hno
    · exact ⟨LI_T (φ := no_U) h hMJ hF2 ht, AG_k (by decide) (by decide) h.2.2.1 hF2 (thq_r ht)⟩
theorem t_sort {x y z : Int32} (h : LSt f n K sz cd s B m0 u0) (hW : WP f n (soP f n K sz cd s x y z) (fun k => k = 1 ∧ ¬ okSo x y z) v1 n1 f1) (hM : soM n1 f1 K sz cd s x y z v2 n2 f2) : LI f2 n2 ∧ AG v1 v2 f2 := by
  obtain ⟨rfl, hF2, hM⟩ := hM
  rcases hW with ⟨r, fa, g, rfl, ⟨i, j, k, N, c', π, hi, rfl, hjk, hk, rfl, rfl, hN, hv, rfl, hC, hF, hU, hc', hen⟩, rfl, hg⟩ | ⟨k, rfl, ⟨rfl, hno⟩, rfl, rfl⟩
  · cases hv
    have h1 := LM_o (LM_C h hC hF hU) g
    rcases hM with ⟨i', j', k', N', c2, π2, hi', ei, hjk', hk', ej, ek, hN', rfl, hMJ, hc2, hen2, ht⟩ | ⟨hno, -⟩
    · have := n8 (by omega) (by omega) ei
      subst this
      have := n8 (by omega) (by omega) ej
      subst this
      have := n8 (by omega) (by omega) ek
      subst this
      have eN : N' = N := by rw [hN', hN]
      subst eN
      refine ⟨LI_T h1 (MJ_c hMJ (fun d m hd hm => ?_)) hF2 ht, AG_0 (mz_u_s _ _ _) hg hF2 (thq_r ht)⟩
      by_cases e : d = i
      · subst e
        rw [va_up_s, va_up_s, hc2 m hm, hc' m hm, (enP_uniq hen2 (enP_enu hen)).2 m hm]
      · rw [va_up_n e, va_up_n e]
    · exact absurd ⟨ok8 hi, okF8 hjk hk⟩ hno
  · rcases hM with ⟨i', j', k', N', c2, π2, hi', rfl, hjk', hk', rfl, rfl, -⟩ | ⟨_, rfl, hMJ, ht⟩
    · exact absurd ⟨ok8 hi', okF8 hjk' hk'⟩ hno
    · exact ⟨LI_T (φ := no_U) h hMJ hF2 ht, AG_k (by decide) (by decide) h.2.2.1 hF2 (thq_r ht)⟩
theorem CI_sg (h : CI f n K sz cd s) {i : Nat} (hi : i < 8) : ∀ j, j < sz i → ∀ k, k < 16 → sg (s (cd i j) k) := by
  obtain ⟨x9, h9, h3, h4, h5, h6, h7, h8⟩ := h
  intro j hj k hk
  obtain ⟨g9, e1, e2, e3⟩ := h7.1 i hi
  exact (h8 _ (e3 j hj).2).2.2 k hk
theorem t_merge {x y z w : Int32} (h : LSt f n K sz cd s B m0 u0) (hW : WP f n (mgP f n K sz cd s x y z w) (fun k => k = 1 ∧ ¬ okMg x y z w ∨ k = 2 ∧ okMg x y z w ∧ ¬ srM s cd sz x y z w) v1 n1 f1) (hM : mgM n1 f1 K sz cd s x y z w v2 n2 f2) : LI f2 n2 ∧ AG v1 v2 f2 := by
  have okk : ∀ i o j k, i < 8 → o < 8 → i ≠ o → j ≤ k → k < 16 → okMg (nI i) (nI o) (nI j) (nI k) := fun i o j k hi ho hio hjk hk => ⟨⟨ok8 hi, ok8 ho, okN8 hi ho hio⟩, okF8 hjk hk⟩
  rcases hW with ⟨r, fa, g, rfl, ⟨i, o, j, k, hi, rfl, ho, rfl, hio, hjk, hk, rfl, rfl, hr1, hr2, hv, rfl, hC, hF, hU⟩, rfl, hg⟩ | ⟨k, rfl, hT, rfl, rfl⟩
  · cases hv
    have h1 := LM_o (LM_C h hC hF hU) g
    rcases hM with ⟨i', o', j', k', hi', ei, ho', eo, hio', hjk', hk', ej, ek, hM⟩ | ⟨hno, -⟩
    · have := n8 (by omega) (by omega) ei
      subst this
      have := n8 (by omega) (by omega) eo
      subst this
      have := n8 (by omega) (by omega) ej
      subst this
      have := n8 (by omega) (by omega) ek
      subst this
      rcases hM with ⟨-, -, rfl, rfl, ⟨rr, π2, hMJ, hrr, hen2⟩, hF2, ht⟩ | ⟨hno, -⟩
      · refine ⟨LI_T h1 (MJ_c hMJ (fun d m hd hm => ?_)) hF2 ht, AG_0 (mz_u_s _ _ _) hg hF2 (thq_r ht)⟩
        by_cases e : d = o
        · subst e; rw [va_up_s] at hm; omega
        · rw [va_up_n e] at hm
          rw [va_up_n (i := o) e]
          by_cases e2 : d = i
          · subst e2
            rw [va_up_s] at hm
            rw [va_up_s, va_up_s]
            obtain ⟨p1, p2, cr, π, eT, q1, q2, q3, -, -, hcr, hen⟩ := mgT_enP hjk hk (CI_sg h.1 hi) (CI_sg h.1 ho) hr1 hr2 (sz d + sz o) (Nat.le_refl _)
            have e5 : p1 = sz d := by omega
            have e6 : p2 = sz o := by omega
            subst e5
            subst e6
            rw [eT]
            show rr m = cr m
            rw [hrr m hm, hcr m hm, (enP_uniq hen2 (enP_iff hen (fun x => by omega))).2 m hm]
          · rw [va_up_n e2, va_up_n e2]
      · exact absurd ⟨hr1, hr2⟩ hno
    · exact absurd (okk i o j k hi ho hio hjk hk) hno
  · rcases hM with ⟨i', o', j', k', hi', rfl, ho', rfl, hio', hjk', hk', rfl, rfl, hM⟩ | ⟨hno, rfl, rfl, hMJ, hF2, ht⟩
    · have hj16 : j' < 16 := by omega
      rcases hT with ⟨rfl, hno⟩ | ⟨rfl, -, hno⟩
      · exact absurd (okk i' o' j' k' hi' ho' hio' hjk' hk') hno
      · rcases hM with ⟨hr1, hr2, -⟩ | ⟨-, rfl, rfl, hMJ, hF2, ht⟩
        · exact absurd ((srM_n hi' ho' hj16 hk').mpr ⟨hr1, hr2⟩) hno
        · exact ⟨LI_T (φ := no_U) h hMJ hF2 ht, AG_k (by decide) (by decide) h.2.2.1 hF2 (thq_r ht)⟩
    · rcases hT with ⟨rfl, -⟩ | ⟨rfl, hok, -⟩
      · exact ⟨LI_T (φ := no_U) h hMJ hF2 ht, AG_k (by decide) (by decide) h.2.2.1 hF2 (thq_r ht)⟩
      · exact absurd hok hno
theorem t_match {x y u z w : Int32} (h : LSt f n K sz cd s B m0 u0) (hW : WP f n (mtQ f n K sz cd s x y u z w) (fun k => k = 1 ∧ ¬ okMt x y u z w ∨ k = 2 ∧ okMt x y u z w ∧ ¬ srM s cd sz x y z w) v1 n1 f1) (hM : mtM' n1 f1 K sz cd s x y u z w v2 n2 f2) : LI f2 n2 ∧ AG v1 v2 f2 := by
  have okk : ∀ i o e j k, i < 8 → o < 8 → e < 8 → i ≠ o → i ≠ e → o ≠ e → j ≤ k → k < 16 → okMt (nI i) (nI o) (nI e) (nI j) (nI k) := fun i o e j k hi ho he hio hie hoe hjk hk => ⟨⟨ok8 hi, ok8 ho, okN8 hi ho hio⟩, ⟨ok8 hi, ok8 he, okN8 hi he hie⟩, ⟨ok8 ho, ok8 he, okN8 ho he hoe⟩, okF8 hjk hk⟩
  rcases hW with ⟨r, fa, g, rfl, ⟨i, o, e, j, k, c1, c2, R, hi, rfl, ho, rfl, he, rfl, hio, hie, hoe, hjk, hk, rfl, rfl, hr1, hr2, hR, hv, rfl, hC, hF, hU⟩, rfl, hg⟩ | ⟨k, rfl, hT, rfl, rfl⟩
  · cases hv
    have h1 := LM_o (LM_C h hC hF hU) g
    rcases hM with ⟨i', o', e', j', k', hi', ei, ho', eo, he', ee, hio', hie', hoe', hjk', hk', ej, ek, hM⟩ | ⟨hno, -⟩
    · have := n8 (by omega) (by omega) ei
      subst this
      have := n8 (by omega) (by omega) eo
      subst this
      have := n8 (by omega) (by omega) ee
      subst this
      have := n8 (by omega) (by omega) ej
      subst this
      have := n8 (by omega) (by omega) ek
      subst this
      rcases hM with ⟨-, -, N1, N2, N3, ρ1, ρ2, ρ3, π1, π2, π3, rfl, rfl, hF2, ht, hMJ, w1, en1, w2, en2, w3, en3⟩ | ⟨hno, -⟩
      · obtain ⟨σ1, σ2, σ3, M3, a1, a2, b1, b2, d0, d1, d2, d3⟩ := mtF_all (si := sz e) (ci := cd e) (c1 := c1) (c2 := c2) hjk hk (CI_sg h.1 hi) (CI_sg h.1 ho) hr1 hr2
        rw [← hR] at a1 a2 b1 b2 d0 d2 d3
        obtain ⟨u1, u1'⟩ := enP_uniq en1 a1
        obtain ⟨u2, u2'⟩ := enP_uniq en2 b1
        obtain ⟨u3, u3'⟩ := enP_uniq en3 d1
        have e3 : R.2.2.1 - sz e = N3 := by omega
        rw [e3] at hg h1
        have eS : va_up (va_up (va_up sz i N1) o N2) e (sz e + N3) = va_up (va_up (va_up sz i R.1.1) o R.2.1.1) e R.2.2.1 := by rw [u1, u2, d0, u3]
        rw [eS] at hMJ
        refine ⟨LI_T h1 (MJ_c hMJ (fun d m hd hm => ?_)) hF2 ht, AG_0 (mz_u_s _ _ _) hg hF2 (thq_r ht)⟩
        by_cases q1 : d = e
        · subst q1
          rw [va_up_s] at hm
          rw [va_up_s, va_up_s]
          by_cases q2 : m < sz d
          · rw [if_pos q2, d2 m q2]
          · obtain ⟨m', rfl⟩ : ∃ m', m = sz d + m' := ⟨m - sz d, by omega⟩
            have hm' : m' < N3 := by omega
            rw [if_neg q2, show sz d + m' - sz d = m' by omega, w3 m' hm', d3 m' (by omega), u3' m' hm']
        · rw [va_up_n q1] at hm
          rw [va_up_n (i := e) q1, va_up_n (i := e) q1]
          by_cases q2 : d = o
          · subst q2
            rw [va_up_s] at hm
            rw [va_up_s, va_up_s, w2 m (by omega), b2 m hm, u2' m (by omega)]
          · rw [va_up_n q2] at hm
            rw [va_up_n (i := o) q2, va_up_n (i := o) q2]
            by_cases q3 : d = i
            · subst q3
              rw [va_up_s] at hm
              rw [va_up_s, va_up_s, w1 m (by omega), a2 m hm, u1' m (by omega)]
            · rw [va_up_n q3, va_up_n q3]
      · exact absurd ⟨hr1, hr2⟩ hno
    · exact absurd (okk i o e j k hi ho he hio hie hoe hjk hk) hno
  · rcases hM with ⟨i', o', e', j', k', hi', rfl, ho', rfl, he', rfl, hio', hie', hoe', hjk', hk', rfl, rfl, hM⟩ | ⟨hno, rfl, rfl, hMJ, hF2, ht⟩
    · have hj16 : j' < 16 := by omega
      rcases hT with ⟨rfl, hno⟩ | ⟨rfl, -, hno⟩
      · exact absurd (okk i' o' e' j' k' hi' ho' he' hio' hie' hoe' hjk' hk') hno
      · rcases hM with ⟨hr1, hr2, -⟩ | ⟨-, rfl, rfl, hMJ, hF2, ht⟩
        · exact absurd ((srM_n hi' ho' hj16 hk').mpr ⟨hr1, hr2⟩) hno
        · exact ⟨LI_T (φ := no_U) h hMJ hF2 ht, AG_k (by decide) (by decide) h.2.2.1 hF2 (thq_r ht)⟩
    · rcases hT with ⟨rfl, -⟩ | ⟨rfl, hok, -⟩
      · exact ⟨LI_T (φ := no_U) h hMJ hF2 ht, AG_k (by decide) (by decide) h.2.2.1 hF2 (thq_r ht)⟩
      · exact absurd hok hno
theorem t_reproduce {x y z : Int32} (h : LSt f n K sz cd s B m0 u0) (hW : WP f n (rpP f K sz cd s B x y z) (fun k => k = 1 ∧ ¬ okRp x y z) v1 n1 f1) (hM : rpM n1 f1 K sz cd s B x y z v2 n2 f2) : LI f2 n2 ∧ AG v1 v2 f2 := by
  rcases hW with ⟨r, fa, g, rfl, ⟨b, i, j, R, hb, rfl, hi, rfl, hj, rfl, hij, hR, hv, hC, hF, hU⟩, rfl, hg⟩ | ⟨k, rfl, ⟨rfl, hno⟩, rfl, rfl⟩
  · cases hv
    have h1 := LM_o (LM_C h hC hF hU) g
    rcases hM with ⟨b', i', j', hb', eb, hi', ei, hj', ej, hij', hrn, hMJ⟩ | ⟨hno, -⟩
    · have := n8 (by omega) (by omega) eb
      subst this
      have := n8 (by omega) (by omega) ei
      subst this
      have := n8 (by omega) (by omega) ej
      subst this
      rw [← hR] at hrn hMJ
      obtain ⟨rfl, rfl, hF2, ht⟩ := hrn
      exact ⟨LI_T h1 hMJ hF2 ht, AG_0 (mz_u_s _ _ _) hg hF2 (thq_r ht)⟩
    · exact absurd ⟨ok4 hb, ok8 hi, ok8 hj, okN8 hi hj hij⟩ hno
  · rcases hM with ⟨b', i', j', hb', rfl, hi', rfl, hj', rfl, hij', -⟩ | ⟨-, rfl, rfl, hMJ, hF2, ht⟩
    · exact absurd ⟨ok4 hb', ok8 hi', ok8 hj', okN8 hi' hj' hij'⟩ hno
    · exact ⟨LI_T (φ := no_U) h hMJ hF2 ht, AG_k (by decide) (by decide) h.2.2.1 hF2 (thq_r ht)⟩
theorem t_gang {x y z : Int32} (h : LSt f n K sz cd s B m0 u0) (hW : WP f n (gaP f n K sz cd s B x y z) (fun k => k = 1 ∧ ¬ okGa x y z) v1 n1 f1) (hM : gaM n1 f1 K sz cd s B x y z v2 n2 f2) : LI f2 n2 ∧ AG v1 v2 f2 := by
  rcases hW with ⟨r, fa, g, rfl, ⟨b, i, j, R, hb, rfl, hi, rfl, hj, rfl, hR, hv, rfl, hC, hF, hU⟩, rfl, hg⟩ | ⟨k, rfl, ⟨rfl, hno⟩, rfl, rfl⟩
  · cases hv
    have h1 := LM_o (LM_C h hC hF hU) g
    rcases hM with ⟨b', i', j', hb', eb, hi', ei, hj', ej, hrn, hMJ⟩ | ⟨hno, -⟩
    · have := n8 (by omega) (by omega) eb
      subst this
      have := n8 (by omega) (by omega) ei
      subst this
      have := n8 (by omega) (by omega) ej
      subst this
      rw [← hR] at hrn hMJ
      obtain ⟨rfl, rfl, hF2, ht⟩ := hrn
      exact ⟨LI_T h1 hMJ hF2 ht, AG_0 (mz_u_s _ _ _) hg hF2 (thq_r ht)⟩
    · exact absurd ⟨ok4 hb, ok8 hi, ok16 hj⟩ hno
  · rcases hM with ⟨b', i', j', hb', rfl, hi', rfl, hj', rfl, -⟩ | ⟨-, rfl, rfl, hMJ, hF2, ht⟩
    · exact absurd ⟨ok4 hb', ok8 hi', ok16 hj'⟩ hno
    · exact ⟨LI_T (φ := no_U) h hMJ hF2 ht, AG_k (by decide) (by decide) h.2.2.1 hF2 (thq_r ht)⟩
theorem t_multiply {x y z w : Int32} (h : LSt f n K sz cd s B m0 u0) (hW : WP f n (muP f n K sz cd s x y z w) (fun k => k = 1 ∧ ¬ okMu x y z w) v1 n1 f1) (hM : muM n1 f1 K sz cd s x y z w v2 n2 f2) : LI f2 n2 ∧ AG v1 v2 f2 := by
  rcases hW with ⟨r, fa, g, rfl, ⟨i, j, k, l, R, hi, rfl, hj, rfl, hk, rfl, hl, rfl, hok, hR, hv, rfl, hC, hF, hU⟩, rfl, hg⟩ | ⟨k, rfl, ⟨rfl, hno⟩, rfl, rfl⟩
  · cases hv
    have h1 := LM_o (LM_C h hC hF hU) g
    rcases hM with ⟨i', j', k', l', hi', ei, hj', ej, hk', ek, hl', el, -, hrn, hMJ⟩ | ⟨hno, -⟩
    · have := n8 (by omega) (by omega) ei
      subst this
      have := n8 (by have := hj.1; omega) (by have := hj'.1; omega) ej
      subst this
      have := n8 (by have := hk.1; omega) (by have := hk'.1; omega) ek
      subst this
      have := n8 (by have := hl.1; omega) (by have := hl'.1; omega) el
      subst this
      rw [← hR] at hrn hMJ
      obtain ⟨rfl, rfl, hF2, ht⟩ := hrn
      exact ⟨LI_T h1 hMJ hF2 ht, AG_0 (mz_u_s _ _ _) hg hF2 (thq_r ht)⟩
    · exact absurd hok hno
  · rcases hM with ⟨i', j', k', l', hi', rfl, hj', rfl, hk', rfl, hl', rfl, hok, -⟩ | ⟨-, rfl, rfl, hMJ, hF2, ht⟩
    · exact absurd hok hno
    · exact ⟨LI_T (φ := no_U) h hMJ hF2 ht, AG_k (by decide) (by decide) h.2.2.1 hF2 (thq_r ht)⟩
theorem okSg_i {x y z : Int32} (hs : ∀ i, i < 8 → sz i ≤ 200) : okSg sz x y z ↔ okSi sz x y z := by
  constructor
  · rintro ⟨hx, h1, h2, hz⟩
    obtain ⟨i, hi, rfl⟩ := mk_nat (x := x) (N := 8) hx.1 hx.2 (by decide)
    obtain ⟨k, hk, rfl⟩ := mk_nat (x := z) (N := 16) hz.1 hz.2 (by decide)
    have := hs i hi
    rw [nI_clamp (by omega), mk_le, mk_nti (show sz i < 2 ^ 31 by omega)] at h2
    rw [mk_lt] at h1
    have q0 : (0 : Int32).toInt = 0 := rfl
    obtain ⟨j, hj, rfl⟩ := mk_nat (x := y) (N := sz i) (by omega) (by omega) (by omega)
    exact ⟨i, j, k, hi, rfl, hj, rfl, hk, rfl⟩
  · rintro ⟨i, j, k, hi, rfl, hj, rfl, hk, rfl⟩
    have := hs i hi
    refine ⟨ok8 hi, ?_, ?_, ok16 hk⟩
    · show ¬ nI j < nI 0
      rw [nI_ltI (by omega) (by decide)]; omega
    · rw [nI_clamp (by omega), nI_leI (by omega) (by omega)]; omega
theorem t_sign {x y z : Int32} (h : LSt f n K sz cd s B m0 u0) (hW : WP f n (siP f n K sz cd s x y z) (fun k => k = 1 ∧ ¬ okSg sz x y z) v1 n1 f1) (hM : sgM n1 f1 K sz cd s x y z v2 n2 f2) : LI f2 n2 ∧ AG v1 v2 f2 := by
  obtain ⟨rfl, hMJ, hF2, hM⟩ := hM
  rcases hW with ⟨r, fa, g, rfl, ⟨⟨i, j, k, hi, rfl, hj, rfl, hk, rfl, hv⟩, rfl, hC, hF, hU⟩, rfl, hg⟩ | ⟨k, rfl, ⟨rfl, hno⟩, rfl, rfl⟩
  · cases hv
    have h1 := LM_o (LM_C h hC hF hU) g
    have hsz : sz i ≤ 200 := by
      obtain ⟨ln, W, h9, -⟩ := h.2.1
      exact MP_sz h9 hi
    rcases hM with ⟨i', j', k', hi', ei, hj', ej, hk', ek, rfl, ht⟩ | ⟨hno, -⟩
    · have := n8 (by omega) (by omega) ei
      subst this
      have := n8 (by omega) (by omega) ej
      subst this
      have := n8 (by omega) (by omega) ek
      subst this
      exact ⟨LI_T h1 hMJ hF2 ht, AG_0 (mz_u_s _ _ _) hg hF2 (thq_r ht)⟩
    · exact absurd ⟨i, j, k, hi, rfl, hj, rfl, hk, rfl⟩ hno
  · have hs : ∀ i, i < 8 → sz i ≤ 200 := fun i hi => by
      obtain ⟨ln, W, h9, -⟩ := h.2.1
      exact MP_sz h9 hi
    rcases hM with ⟨i', j', k', hi', rfl, hj', rfl, hk', rfl, -⟩ | ⟨-, rfl, ht⟩
    · exact absurd ((okSg_i hs).mpr ⟨i', j', k', hi', rfl, hj', rfl, hk', rfl⟩) hno
    · exact ⟨LI_T (φ := no_U) h hMJ hF2 ht, AG_k (by decide) (by decide) h.2.2.1 hF2 (thq_r ht)⟩
theorem LS_100 (h : LSt f n K sz cd s B m0 u0) : u0.2.1 ≤ 100 := h.2.2.2.2.2.2.2.1.2.2.2.1
theorem okPr_n {i j : Nat} (h : LSt f n K sz cd s B m0 u0) (hi : i < u0.2.1) (hj : j < 24) : okPr u0 (nI i) (nI j) := by
  have := LS_100 h
  refine (okPr_i this).mpr ?_
  rw [nII (by omega), nII (by omega)]
  omega
theorem AG_o {f1 f2 : mz_H} {r : Int32} {g : Nat → Int64} (h : f1 171 = aL 1 g) (hg : g 0 = r.toInt64) (hF : FrO f1 f2) (ht : thr f2 (nI 0)) : AG (some (.int (nI 0))) (some (.int r)) f2 := ⟨0, r, g, by decide, rfl, rfl, ht, (hF 171 (by decide)).trans h, fun _ => hg⟩
theorem t_tabulate {x y : Int32} (h : LSt f n K sz cd s B m0 u0) (hW : WP f n (taP f n K sz cd s B u0 x y) (fun k => k = 1 ∧ ¬ okTa x y) v1 n1 f1) (hM : taM n1 f1 K sz cd s B m0 u0 x y v2 n2 f2) : LI f2 n2 ∧ AG v1 v2 f2 := by
  rcases hW with ⟨r, fa, g, rfl, ⟨b, i, R, hb, rfl, hi, rfl, hR, hv, rfl, hC, hF, hU, hX⟩, rfl, hg⟩ | ⟨k, rfl, ⟨rfl, hno⟩, rfl, rfl⟩
  · cases hv
    have h1 := LM_o (LM_Y h hC hF hU hX) g
    rcases hM with ⟨b', i', hb', eb, hi', ei, hq⟩ | ⟨hno, -⟩
    · have := n8 (by omega) (by omega) eb
      subst this
      have := n8 (by omega) (by omega) ei
      subst this
      rw [← hR] at hq
      obtain ⟨rfl, rfl, hMJ, hF2, ht, hT⟩ := hq
      exact ⟨LI_U h1 hMJ hF2 hT, AG_o (mz_u_s _ _ _) hg hF2 ht⟩
    · exact absurd ⟨ok4 hb, ok8 hi⟩ hno
  · rcases hM with ⟨b', i', hb', rfl, hi', rfl, -⟩ | ⟨-, rfl, rfl, hMJ, hF2, ht⟩
    · exact absurd ⟨ok4 hb', ok8 hi'⟩ hno
    · exact ⟨LI_T (φ := no_U) h hMJ hF2 ht, AG_k (by decide) (by decide) h.2.2.1 hF2 (thq_r ht)⟩
theorem t_printed {x y : Int32} (h : LSt f n K sz cd s B m0 u0) (hW : WP f n (prP f n K sz cd s u0 x y) (fun k => k = 1 ∧ ¬ okPr u0 x y) v1 n1 f1) (hM : prM n1 f1 K sz cd s u0 x y v2 n2 f2) : LI f2 n2 ∧ AG v1 v2 f2 := by
  obtain ⟨rfl, hMJ, hF2, hM⟩ := hM
  have hl := LS_100 h
  rcases hW with ⟨r, fa, g, rfl, ⟨⟨i, j, hi, rfl, hj, rfl, hv⟩, rfl, hC, hF, hU⟩, rfl, hg⟩ | ⟨k, rfl, ⟨rfl, hno⟩, rfl, rfl⟩
  · cases hv
    have h1 := LM_o (LM_C h hC hF hU) g
    rcases hM with ⟨i', j', hi', ei, hj', ej, rfl, ht⟩ | ⟨hno, -⟩
    · have := n8 (by omega) (by omega) ei
      subst this
      have := n8 (by omega) (by omega) ej
      subst this
      exact ⟨LI_T h1 hMJ hF2 ht, AG_0 (mz_u_s _ _ _) hg hF2 (thq_r ht)⟩
    · exact absurd (okPr_n h hi hj) hno
  · rcases hM with ⟨i', j', hi', rfl, hj', rfl, -⟩ | ⟨-, rfl, ht⟩
    · exact absurd (okPr_n h hi' hj') hno
    · exact ⟨LI_T (φ := no_U) h hMJ hF2 ht, AG_k (by decide) (by decide) h.2.2.1 hF2 (thq_r ht)⟩
theorem t_counter {x : Int32} (h : LSt f n K sz cd s B m0 u0) (hW : WP f n (coP f n K sz cd s u0 x) (fun k => k = 1 ∧ ¬ okCo x) v1 n1 f1) (hM : coM n1 f1 K sz cd s u0 x v2 n2 f2) : LI f2 n2 ∧ AG v1 v2 f2 := by
  obtain ⟨rfl, hMJ, hF2, hM⟩ := hM
  rcases hW with ⟨r, fa, g, rfl, ⟨⟨i, hi, rfl, hv⟩, rfl, hC, hF, hU⟩, rfl, hg⟩ | ⟨k, rfl, ⟨rfl, hno⟩, rfl, rfl⟩
  · cases hv
    have h1 := LM_o (LM_C h hC hF hU) g
    rcases hM with ⟨i', hi', ei, rfl, ht⟩ | ⟨hno, -⟩
    · have := n8 (by omega) (by omega) ei
      subst this
      exact ⟨LI_T h1 hMJ hF2 ht, AG_0 (mz_u_s _ _ _) hg hF2 (thq_r ht)⟩
    · exact absurd (ok4 hi) hno
  · rcases hM with ⟨i', hi', rfl, -⟩ | ⟨-, rfl, ht⟩
    · exact absurd (ok4 hi') hno
    · exact ⟨LI_T (φ := no_U) h hMJ hF2 ht, AG_k (by decide) (by decide) h.2.2.1 hF2 (thq_r ht)⟩
theorem t_card {x : Int32} {a b : Int64} (h : LSt f n K sz cd s B m0 u0) (hP : caP f n K sz cd s x a b v1 n1 f1) (hM : caM n1 f1 K sz cd s x a b v2 n2 f2) : LI f2 n2 ∧ v1 = v2 := by
  obtain ⟨rfl, hF2, ht, hM⟩ := hM
  rcases hP with ⟨i, hi, rfl, hK, hall, rfl, hC, hF, hU⟩ | ⟨hno, rfl, rfl, hC, hF, hU⟩
  · rcases hM with ⟨i', hi', ei, -, -, rfl, hMJ⟩ | ⟨hno, -⟩
    · have := n8 (by omega) (by omega) ei
      subst this
      refine ⟨LI_T (LM_C h hC hF hU) (MJ_s hMJ (fun x j hx hj => ?_)) hF2 ht, rfl⟩
      by_cases e : x = K
      · subst e; rw [va_up_s, va_up_s, cpy_lt hj, cpy_lt hj]
      · rw [va_up_n e, va_up_n e]
    · exact absurd ⟨ok8 hi, hK, hall⟩ hno
  · rcases hM with ⟨i', hi', rfl, hK, hall, -⟩ | ⟨-, rfl, hMJ⟩
    · exact absurd ⟨ok8 hi', hK, hall⟩ hno
    · exact ⟨LI_T (LM_C h hC hF hU) hMJ hF2 ht, rfl⟩
theorem t_cut {x y z : Int32} (h : LSt f n K sz cd s B m0 u0) (hP : ctP f n K sz cd s x y z v1 n1 f1) (hM : ctM n1 f1 K sz cd s x y z v2 n2 f2) : LI f2 n2 := by
  obtain ⟨rfl, hF2, ht, hM⟩ := hM
  have hs : ∀ i, i < 8 → sz i ≤ 200 := fun i hi => by
    obtain ⟨ln, W, h9, -⟩ := h.2.1
    exact MP_sz h9 hi
  have q0 : (nI 0).toInt = 0 := rfl
  rcases hP with ⟨i, j, mv, hi, rfl, hj, rfl, hij, hmv, hy, rfl, rfl, hC, hF, hU⟩ | ⟨hno, rfl, rfl, hC, hF, hU⟩
  · have hsi := hs i hi
    have h1 := LM_C h hC hF hU
    rcases hM with ⟨i', j', mv', hi', ei, hj', ej, hij', hmv', rfl, rfl, hMJ⟩ | ⟨hno, rfl, hMJ⟩
    · have := n8 (by omega) (by omega) ei
      subst this
      have := n8 (by omega) (by omega) ej
      subst this
      have : mv' = mv := by
        rw [if_neg (by rw [nI_ltI (by omega) (by decide)]; omega)] at hy
        exact (nI_eq (by omega) (by omega)).mp hy
      subst this
      have eS : va_up (va_up sz j (sz j + mv')) i (sz i - mv') = va_up (va_up sz i (sz i - mv')) j (sz j + mv') := by
        funext d
        unfold va_up
        by_cases e1 : d = i
        · by_cases e2 : d = j
          · omega
          · rw [if_pos e1, if_neg e2, if_pos e1]
        · by_cases e2 : d = j
          · rw [if_neg e1, if_pos e2, if_pos e2]
          · rw [if_neg e1, if_neg e2, if_neg e2, if_neg e1]
      rw [eS] at hMJ
      refine LI_T h1 (MJ_c hMJ (fun d m hd hm => ?_)) hF2 ht
      by_cases e1 : d = i
      · subst e1
        rw [va_up_s, va_up_n hij, va_up_s]
      · rw [va_up_n (i := i) e1]
        by_cases e2 : d = j
        · subst e2; rw [va_up_s, va_up_s]
        · rw [va_up_n e2, va_up_n e2, va_up_n e1]
    · -- a negative number: nothing goes
      have hneg : y < nI 0 := by
        rw [mk_lt, q0]
        rcases Int.lt_or_le y.toInt 0 with q | q
        · exact q
        · exfalso
          refine hno ⟨⟨ok8 hi, ok8 hj, okN8 hi hj hij⟩, q, ?_⟩
          rw [if_neg (by rw [mk_lt, q0]; omega)] at hy
          rw [hy, nI_clamp (by omega), nI_leI (by omega) (by omega)]
          exact hmv
      rw [if_pos hneg] at hy
      have : mv = 0 := ((nI_eq (by decide) (by omega)).mp hy).symm
      subst this
      have eS : va_up (va_up sz i (sz i - 0)) j (sz j + 0) = sz := by
        funext d
        unfold va_up
        by_cases e2 : d = j
        · rw [if_pos e2, e2]; rfl
        · rw [if_neg e2]
          by_cases e1 : d = i
          · rw [if_pos e1, e1]; rfl
          · rw [if_neg e1]
      rw [eS] at h1
      refine LI_T h1 (MJ_c hMJ (fun d m hd hm => ?_)) hF2 ht
      by_cases e2 : d = j
      · subst e2; rw [va_up_s, if_pos hm]
      · rw [va_up_n e2]
        by_cases e1 : d = i
        · subst e1; rw [va_up_s]; rfl
        · rw [va_up_n e1]
  · rcases hM with ⟨i', j', mv', hi', rfl, hj', rfl, hij', hmv', rfl, -⟩ | ⟨-, rfl, hMJ⟩
    · have hsi := hs i' hi'
      exfalso
      refine hno ⟨⟨ok8 hi', ok8 hj', okN8 hi' hj' hij'⟩, ?_⟩
      rw [nI_clamp (by omega), nI_leI (by omega) (by omega)]
      exact hmv'
    · exact LI_T (LM_C h hC hF hU) hMJ hF2 ht
theorem t_tear (h : LSt f n K sz cd s B m0 u0) (hP : teP f n K sz cd s u0 v1 n1 f1) (hM : teM n1 f1 K sz cd s m0 u0 v2 n2 f2) : LI f2 n2 ∧ v1 = v2 := by
  obtain ⟨rfl, rfl, hC, hF, hU, hX⟩ := hP
  obtain ⟨rfl, rfl, hMJ, hF2, hT⟩ := hM
  exact ⟨LI_U (LM_Y h hC hF hU hX) hMJ (FrC_O hF2) hT, rfl⟩
theorem t_fault {x : Int32} (h : LSt f n K sz cd s B m0 u0) (hP : faP f n K sz cd s m0 x v1 n1 f1) (hM : faM n1 f1 K sz cd s m0 x v2 n2 f2) : LI f2 n2 ∧ v1 = v2 := by
  obtain ⟨rfl, rfl, hC, hF, hU⟩ := hP
  obtain ⟨rfl, rfl, hMJ, hF2, ht⟩ := hM
  exact ⟨LI_T (LM_C h hC hF hU) hMJ hF2 ht, rfl⟩
theorem t_count {x : Int32} (h : LSt f n K sz cd s B m0 u0) (hP : cuP f n K sz cd s B m0 u0 x v1 n1 f1) (hM : cuM n1 f1 K sz cd s B m0 u0 x v2 n2 f2) : LI f2 n2 ∧ v1 = v2 := by
  obtain ⟨rfl, rfl, hC, hF, hU⟩ := hP
  obtain ⟨rfl, rfl, hMJ, hF2, ht⟩ := hM
  exact ⟨LI_T (LM_C h hC hF hU) hMJ hF2 ht, rfl⟩
/-! what comes out is an int -/
theorem WP_v {P : Option Value → Nat → mz_H → Prop} {T : Nat → Prop} (h : WP f n P T v1 n1 f1) : ∃ r, v1 = some (.int r) := by
  rcases h with ⟨r, fa, g, rfl, -⟩ | ⟨k, rfl, -⟩ <;> exact ⟨_, rfl⟩
theorem FB_M (h : LSt f n K sz cd s B m0 u0) (hF : FrY f f1) : MJ f1 K sz cd s ∧ (∃ fs, f1 158 = .inr (11, fs)) ∧ MX f1 B ∧ MT f1 m0 u0 := by
  obtain ⟨h1, h2, h3, h4, h5, h6, h7, h8, h9⟩ := id h
  refine ⟨MJ_eq h2 (fun q a b => hF q (by omega) (by omega)), ?_, MX_eq h6 (fun q a b => hF q (by omega) (by omega)), MT_eq h9 (fun q a b => hF q (by omega) (by omega))⟩
  rw [hF 158 (by decide) (by decide)]
  exact LM_158 h
theorem WP_M {P : Option Value → Nat → mz_H → Prop} {T : Nat → Prop} (h : LSt f n K sz cd s B m0 u0) (hP : ∀ v n' f', P v n' f' → FrY f f') (hW : WP f n P T v1 n1 f1) : MJ f1 K sz cd s ∧ (∃ fs, f1 158 = .inr (11, fs)) ∧ MX f1 B ∧ MT f1 m0 u0 := by
  rcases hW with ⟨r, fa, g, rfl, hp, rfl, -⟩ | ⟨k, rfl, -, -, rfl⟩
  · have hF := hP _ _ _ hp
    obtain ⟨q1, ⟨fs, q2⟩, q3, q4⟩ := FB_M h hF
    exact ⟨MJ_eq q1 (fun q a b => mz_u_n (by omega)), ⟨fs, (mz_u_n (by decide)).trans q2⟩, MX_eq q3 (fun q a b => mz_u_n (by omega)), MT_eq q4 (fun q a b => mz_u_n (by omega))⟩
  · exact FB_M h (fun _ _ _ => rfl)
theorem u_pass {x y : Int32} {z : Bool} (h : psM n1 f1 K sz cd s x y z v2 n2 f2) : ∃ r, v2 = some (.int r) := by
  obtain ⟨-, -, ⟨i, j, c, -, -, -, -, rfl, -⟩ | ⟨-, rfl, -⟩⟩ := h <;> exact ⟨_, rfl⟩
theorem u_sort {x y z : Int32} (h : soM n1 f1 K sz cd s x y z v2 n2 f2) : ∃ r, v2 = some (.int r) := by
  obtain ⟨-, -, ⟨i, j, k, N, r, π, -, -, -, -, -, -, -, rfl, -⟩ | ⟨-, rfl, -⟩⟩ := h <;> exact ⟨_, rfl⟩
theorem u_merge {x y z w : Int32} (h : mgM n1 f1 K sz cd s x y z w v2 n2 f2) : ∃ r, v2 = some (.int r) := by
  rcases h with ⟨i, o, j, k, -, -, -, -, -, -, -, -, -, ⟨-, -, rfl, -⟩ | ⟨-, rfl, -⟩⟩ | ⟨-, rfl, -⟩ <;> exact ⟨_, rfl⟩
theorem u_match {x y u z w : Int32} (h : mtM' n1 f1 K sz cd s x y u z w v2 n2 f2) : ∃ r, v2 = some (.int r) := by
  rcases h with ⟨i, o, e, j, k, -, -, -, -, -, -, -, -, -, -, -, -, -, ⟨-, -, N1, N2, N3, r1, r2, r3, p1, p2, p3, rfl, -⟩ | ⟨-, rfl, -⟩⟩ | ⟨-, rfl, -⟩ <;> exact ⟨_, rfl⟩
theorem u_reproduce {x y z : Int32} (h : rpM n1 f1 K sz cd s B x y z v2 n2 f2) : ∃ r, v2 = some (.int r) := by
  rcases h with ⟨b, i, j, -, -, -, -, -, -, -, ⟨rfl, -⟩, -⟩ | ⟨-, rfl, -⟩ <;> exact ⟨_, rfl⟩
theorem u_gang {x y z : Int32} (h : gaM n1 f1 K sz cd s B x y z v2 n2 f2) : ∃ r, v2 = some (.int r) := by
  rcases h with ⟨b, i, j, -, -, -, -, -, -, ⟨rfl, -⟩, -⟩ | ⟨-, rfl, -⟩ <;> exact ⟨_, rfl⟩
theorem u_multiply {x y z w : Int32} (h : muM n1 f1 K sz cd s x y z w v2 n2 f2) : ∃ r, v2 = some (.int r) := by
  rcases h with ⟨i, j, k, l, -, -, -, -, -, -, -, -, -, ⟨rfl, -⟩, -⟩ | ⟨-, rfl, -⟩ <;> exact ⟨_, rfl⟩
theorem u_sign {x y z : Int32} (h : sgM n1 f1 K sz cd s x y z v2 n2 f2) : ∃ r, v2 = some (.int r) := by
  obtain ⟨-, -, -, ⟨i, j, k, -, -, -, -, -, -, rfl, -⟩ | ⟨-, rfl, -⟩⟩ := h <;> exact ⟨_, rfl⟩
theorem u_card {x : Int32} {a b : Int64} (h : caM n1 f1 K sz cd s x a b v2 n2 f2) : ∃ r, v2 = some (.int r) := by
  obtain ⟨-, -, -, ⟨i, -, -, -, -, rfl, -⟩ | ⟨-, rfl, -⟩⟩ := h <;> exact ⟨_, rfl⟩
theorem u_cut {x y z : Int32} (h : ctM n1 f1 K sz cd s x y z v2 n2 f2) : ∃ r, v2 = some (.int r) := by
  obtain ⟨-, -, -, ⟨i, j, mv, -, -, -, -, -, -, -, rfl, -⟩ | ⟨-, rfl, -⟩⟩ := h <;> exact ⟨_, rfl⟩
theorem u_tabulate {x y : Int32} (h : taM n1 f1 K sz cd s B m0 u0 x y v2 n2 f2) : ∃ r, v2 = some (.int r) := by
  rcases h with ⟨b, i, -, -, -, -, rfl, -⟩ | ⟨-, rfl, -⟩ <;> exact ⟨_, rfl⟩
theorem u_printed {x y : Int32} (h : prM n1 f1 K sz cd s u0 x y v2 n2 f2) : ∃ r, v2 = some (.int r) := by
  obtain ⟨-, -, -, ⟨i, j, -, -, -, -, rfl, -⟩ | ⟨-, rfl, -⟩⟩ := h <;> exact ⟨_, rfl⟩
theorem u_counter {x : Int32} (h : coM n1 f1 K sz cd s u0 x v2 n2 f2) : ∃ r, v2 = some (.int r) := by
  obtain ⟨-, -, -, ⟨i, -, -, rfl, -⟩ | ⟨-, rfl, -⟩⟩ := h <;> exact ⟨_, rfl⟩
theorem p_card {x : Int32} {a b : Int64} (h : caP f n K sz cd s x a b v1 n1 f1) : (∃ r, v1 = some (.int r)) ∧ FrB f f1 := by
  rcases h with ⟨i, -, -, -, -, rfl, -, hF, -⟩ | ⟨-, rfl, -, -, hF, -⟩ <;> exact ⟨⟨_, rfl⟩, hF⟩
theorem p_cut {x y z : Int32} (h : ctP f n K sz cd s x y z v1 n1 f1) : (∃ r, v1 = some (.int r)) ∧ FrB f f1 := by
  rcases h with ⟨i, j, mv, -, -, -, -, -, -, -, rfl, -, -, hF, -⟩ | ⟨-, rfl, -, -, hF, -⟩ <;> exact ⟨⟨_, rfl⟩, hF⟩
end TIE
