/-! new int[N][K]: the outer array and its rows, one behind the other -/
def mz_mf (f : mz_H) (n N K : Nat) : mz_H := fun k => if k = n then aQ 7 N (fun i => if i < N then some (n + 1 + i) else none) else if n < k ∧ k < n + 1 + N then aI K (fun _ => nI 0) else f k
def mz_ma (ad : Nat → Nat) (n N h : Nat) : Nat → Nat := fun k => if n ≤ k ∧ k < n + 1 + N then h + (k - n) else ad k
theorem th_outer (c : ClassId) (N h0 : Nat) : ∀ i : Nat, Jvm.Free.Multi.outerC c N h0 i = arrV c N (fun j => va_rf (if j < i then some (h0 + 1 + j) else none)) := by
  intro i
  induction i with
  | zero =>
    show ({ cls := c, slots := Array.replicate N .null, vm := .none } : Cell) = _
    rw [arrV_new]
    congr 1
  | succ i ih =>
    show (Jvm.Free.Multi.outerC c N h0 i).setSlot i (.ref (h0 + 1 + i)) = _
    rw [ih, arrV_store]
    congr 1
    funext j
    by_cases e : j = i
    · subst e; simp [updV, va_rf]
    · by_cases h : j < i
      · simp [updV, e, h, Nat.lt_succ_of_lt h]
      · simp [updV, e, h, show ¬ j < i + 1 by omega]
theorem mz_mna {G : mz_G} {X : mz_E} {cn : Nat} {ini : Bool} {cc : ByteArray} {nL : Nat} {ret : Option FieldType} {rm : Room} {post : Option Value → Nat → mz_H → Prop} {thr : String → Nat → mz_H → Prop} {pc : Nat} {l : mz_L} {r : List Value} {k1 k2 n : Nat} {f : mz_H} {idx N K : Nat} {x y : Int32}
    (hd : decode cc pc = .ok (.multianewarray idx 2, 4)) (w1 : Cond.classLink (nm_Own cn) idx ("[" ++ (FieldType.array .int).toString) ∈ nm_Ts) (w2 : Cond.arrayOver (.array .int) ∈ nm_Ns) (w3 : Cond.arrayClass .int ∈ nm_Ts) (hx0 : ¬ x < 0) (hy0 : ¬ y < 0) (hxN : x.toNatClampNeg = N) (hyK : y.toNatClampNeg = K) (hb1 : N * 4 ≤ 536870912) (hb2 : K * 4 ≤ 536870912) (hm1 : k1 + (1 + N) ≤ rm.cells) (hm2 : k2 + (N + N * K) ≤ rm.slots) (hn : n + 1 + N ≤ mz_e0)
    (h : mz_X G X cn ini cc nL ret rm post thr (pc + 4) l (.ref n :: r) (k1 + 1 + N) (k2 + N + N * K) (n + 1 + N) (mz_mf f n N K)) : mz_X G X cn ini cc nL ret rm post thr pc l (.int y :: .int x :: r) k1 k2 n f := by
  subst hxN; subst hyK
  generalize hN : x.toNatClampNeg = N at *
  generalize hKK : y.toNatClampNeg = K at *
  intro hk1 hk2 hol hos p e s m args below meth c A H locs ls ad ad0 n0 ok rep hl
  obtain ⟨hx, hb, hml, hr, hown, hin, hlocks, hts, hns, hK, hA⟩ := id ok
  obtain ⟨rP, rD, rS, rW, rN, rA, rX⟩ := id rep
  intro T hT S
  obtain ⟨vm₁, cA, comp, -, fA, fC, hO, hI, S', step⟩ := S.multianewarray2F hx hown (hts _ w1) (show (Cond.arrayOver (.array .int)).before args s = true from hns _ w2) (hts _ w3) (g := F0 m pc ls (.int y :: .int x :: r.map (mz_v ad))) rfl (by rw [hb]; exact hd) rfl hx0 hy0 (by rw [hN]; exact hb1) (by rw [hKK]; exact hb2) (by rw [hKK]; omega) rfl rfl (by rw [hN]; exact hm1) (by rw [hN, hKK]; exact hm2)
  rw [hN, hKK] at S' step
  generalize hF : Jvm.Free.Multi.fill (T.setVm vm₁) cA comp N K (defaultValue .int) N = F at S' step
  have hTh : (T.setVm vm₁).heap = H := hT
  obtain ⟨f1, f2, -, -⟩ := Jvm.Free.Multi.fill_facts (T.setVm vm₁) cA comp N K (defaultValue .int) N
  rw [hF, hTh] at f1 f2
  have hold : ∀ q : Nat, q < H.size → F.heap[q]? = H[q]? := fun q hq => by
    have := Jvm.Free.Multi.fill_old (T.setVm vm₁) cA comp N K (defaultValue .int) (a := q) (by rw [hTh]; exact hq) N
    rw [hF, hTh] at this
    exact this
  have hrow : ∀ j : Nat, j < N → F.heap[H.size + 1 + j]? = some (Jvm.Free.Multi.innerC comp K (defaultValue .int)) := fun j hj => by
    have := Jvm.Free.Multi.fill_inner (T.setVm vm₁) cA comp N K (defaultValue .int) N j hj
    rw [hF, hTh] at this
    exact this
  rw [th_outer] at f2
  have e7 := (hK.2 7 _ (mz_ty_get (tA := G.2.2) (t := 7) (ty := .array .int) rfl)).2
  have e0 := (hK.2 0 _ (mz_ty_get (tA := G.2.2) (t := 0) (ty := .int) rfl)).2
  have c7 : G.2.2 7 = cA := Option.some.inj (e7.symm.trans fA)
  have c0 : G.2.2 0 = comp := Option.some.inj (e0.symm.trans fC)
  have hup : ∀ k, k < n ∨ mz_e0 ≤ k → mz_ma ad n N H.size k = ad k := fun k hk => by unfold mz_ma; rw [if_neg (by omega)]
  have hlt : ∀ k, k < n → ad k < H.size := fun k hk => (rP k _ (mz_w_get hk)).lt
  have hadn : ∀ k, n ≤ k → k < n + 1 + N → mz_ma ad n N H.size k = H.size + (k - n) := fun k h1 h2 => by unfold mz_ma; rw [if_pos ⟨h1, h2⟩]
  have hP1 : va_P G.2.1 nm_Cl (mz_w G.2.2 (mz_ma ad n N H.size) (n + 1 + N) (mz_mf f n N K)) F.heap := by
    intro k q hq
    obtain ⟨hk, rfl⟩ := mz_w_of hq
    by_cases q1 : k < n
    · have ef : mz_mf f n N K k = f k := by unfold mz_mf; rw [if_neg (by omega), if_neg (by omega)]
      rw [ef, hup k (Or.inl q1), mz_e_eq hup (rW.2.1 k)]
      exact (rP k _ (mz_w_get q1)).kept (hold _ (hlt k q1))
    · by_cases q2 : k = n
      · subst q2
        have ef : mz_mf f k N K k = aQ 7 N (fun i => if i < N then some (k + 1 + i) else none) := by unfold mz_mf; rw [if_pos rfl]
        rw [ef, hadn k (Nat.le_refl _) (by omega), Nat.sub_self]
        show F.heap[H.size + 0]? = some (vp_cell (G.2.2 7) (N, .inr (.inr (.inr (.inr (fun j => Option.map (mz_ma ad k N H.size) (if j < N then some (k + 1 + j) else none)))))))
        rw [vp_cell_q, c7, Nat.add_zero, f2]
        congr 2
        funext j
        by_cases hj : j < N
        · simp only [if_pos hj, Option.map_some, hadn (k + 1 + j) (by omega) (by omega)]
          congr 2; omega
        · simp only [if_neg hj, Option.map_none]
      · have ef : mz_mf f n N K k = aI K (fun _ => nI 0) := by unfold mz_mf; rw [if_neg q2, if_pos (by omega)]
        rw [ef, hadn k (by omega) hk]
        show F.heap[H.size + (k - n)]? = some (vp_cell (G.2.2 0) (K, .inl (fun _ => nI 0)))
        have e9 : H.size + (k - n) = H.size + 1 + (k - n - 1) := by omega
        rw [vp_cell_i, c0, e9, hrow (k - n - 1) (by omega)]
        show some ({ cls := comp, slots := Array.replicate K (defaultValue .int), vm := .none } : Cell) = _
        rw [arrV_new]
        rfl
  have hD1 : va_D A (mz_w G.2.2 (mz_ma ad n N H.size) (n + 1 + N) (mz_mf f n N K)) := by
    refine ⟨fun i j a b hi hj hab => ?_, fun k q hq => ?_⟩
    · obtain ⟨hi2, rfl⟩ := mz_w_of hi
      obtain ⟨hj2, rfl⟩ := mz_w_of hj
      have hab2 : mz_ma ad n N H.size i = mz_ma ad n N H.size j := hab
      by_cases q1 : i < n
      · by_cases q2 : j < n
        · rw [hup i (Or.inl q1), hup j (Or.inl q2)] at hab2
          exact rD.1 i j _ _ (mz_w_get q1) (mz_w_get q2) hab2
        · have := hlt i q1
          rw [hup i (Or.inl q1), hadn j (by omega) hj2] at hab2
          omega
      · by_cases q2 : j < n
        · have := hlt j q2
          rw [hup j (Or.inl q2), hadn i (by omega) hi2] at hab2
          omega
        · rw [hadn i (by omega) hi2, hadn j (by omega) hj2] at hab2
          omega
    · obtain ⟨hk, rfl⟩ := mz_w_of hq
      show A (mz_ma ad n N H.size k)
      by_cases q1 : k < n
      · rw [hup k (Or.inl q1)]; exact rD.2 k _ (mz_w_get q1)
      · rw [hadn k (by omega) hk]; exact hA _ (Nat.le_trans rS.1 (by omega))
  have hwf : mz_wf (n + 1 + N) (mz_mf f n N K) := by
    refine ⟨hn, fun k => ?_, fun k hk => ?_⟩
    · unfold mz_mf
      by_cases q1 : k = n
      · rw [if_pos q1]
        intro j a hj
        replace hj : (if j < N then some (n + 1 + j) else none) = some a := hj
        by_cases q2 : j < N
        · rw [if_pos q2] at hj; cases hj; omega
        · rw [if_neg q2] at hj; cases hj
      · rw [if_neg q1]
        by_cases q2 : n < k ∧ k < n + 1 + N
        · rw [if_pos q2]; trivial
        · rw [if_neg q2]; exact mz_okC_mono (by omega) (rW.2.1 k)
    · unfold mz_mf
      rw [if_neg (by omega), if_neg (by omega)]; exact rW.2.2 k (by omega)
  have hS1 : va_S A s.heap F.heap locs := ⟨by rw [f1]; have := rS.1; omega, fun q h1 h2 => by rw [hold q (Nat.lt_of_lt_of_le h1 rS.1)]; exact rS.2.1 q h1 h2, rS.2.2⟩
  have hst : (Value.ref n :: r).map (mz_v (mz_ma ad n N H.size)) = .ref H.size :: r.map (mz_v ad) := by
    rw [List.map_cons, mz_s_eq hup (mz_okS_tl (mz_okS_tl hos))]
    show Value.ref (mz_ma ad n N H.size n) :: _ = _
    rw [hadn n (Nat.le_refl _) (by omega), Nat.sub_self]; rfl
  obtain ⟨t, a1, b1⟩ := h (by omega) (by omega) (fun v hv => mz_okV_mono (by omega) (hol v hv)) (mz_okS_c (show n < n + 1 + N ∨ mz_e0 ≤ n from Or.inl (show n < n + 1 + N by omega)) (fun v hv => mz_okV_mono (by omega) (mz_okS_tl (mz_okS_tl hos) v hv))) p e s m args below meth c A F.heap locs ls (mz_ma ad n N H.size) ad0 n0 ok
    ⟨hP1, hD1, hS1, hwf, by omega, fun k hk => by rw [hup k (hk.imp (fun z => Nat.lt_of_lt_of_le z rN) id)]; exact rA k hk, mz_xt_ad (fun k hk => hup k (Or.inr hk)) rX⟩ (mz_lv_eq hup hol hl) F rfl S'
  rw [hst] at a1
  refine ⟨t, step t ?_, b1⟩
  rw [hT]
  exact a1
