/-! methods with an exception table: the law's own, that call what may throw -/
theorem mk_weaken {tb : Tables} {e : Env} {mid below : List Frame} {a b : State} (h : Steps tb e (mid ++ below) a b) : Steps tb e below a b := by
  obtain ⟨n, hn, w⟩ := h
  exact ⟨n, hn, fun k hk => (w k hk).weaken⟩
def mz_wsW (y : MethodName) (cc : ByteArray) (nL : Nat) (ret : Option FieldType) : List Cond := .codeWith y cc nL ret (nm_Hd cc) :: nm_Ts
def mz_CtW (G : mz_G) (X : mz_E) (y : MethodName) (cc : ByteArray) (nL : Nat) (ret : Option FieldType) (rm : Room) (vs : List Value) (n : Nat) (f : mz_H) (post : Option Value → Nat → mz_H → Prop) : Prop :=
  ∀ (ad : Nat → Nat) (sz : Nat), mz_wf n f → mz_okS n vs → Met G.1 y (mz_wsW y cc nL ret) rm (mz_pc G X ad sz vs n f) (mz_q G (va_A (mz_w G.2.2 ad n f) sz) ad n post) rm.cells rm.slots (va_A (mz_w G.2.2 ad n f) sz)
theorem mz_CtW_of {G : mz_G} {X : mz_E} {y : MethodName} {cc : ByteArray} {nL : Nat} {ret : Option FieldType} {rm : Room} {vs : List Value} {n : Nat} {f : mz_H} {post : Option Value → Nat → mz_H → Prop} (l : mz_L) (hy : plainName y.cls = true) (hcn : y.cls = nm_Own 13) (hlen : (mz_la vs).length ≤ nL) (hl : mz_l0 nL vs = l)
    (h : mz_X G X 13 false cc nL ret rm post (fun _ _ _ => False) 0 l [] 0 0 n f) : mz_CtW G X y cc nL ret rm vs n f post := by
  subst hl
  intro ad sz hwf hok
  refine va_MetW (cc := cc) (maxL := nL) (ret := ret) (hh := nm_Hd cc) hy rfl ?_
  intro p e s m args below meth c s₁ B hml hv
  obtain ⟨rfl, rfl, hP, hK, hD0, hns, hxt⟩ := hv
  rw [lg_entry_eq]
  have hts := atoms_spec (ws := mz_wsW y cc nL ret) B.pre
  have hown : s.vm.findClass y.cls = some m.cls := findClass_of_methodNamed B.named
  rw [hcn] at hown
  obtain ⟨m9, meth9, c9, hn9, h1, h2, h3, h4, h5, h6, h7, h8⟩ := Cond.codeWith_spec (hts _ List.mem_cons_self)
  cases B.named.symm.trans hn9
  cases B.method.symm.trans h1
  have hcode : meth.code = some c := (Stand.of_body B).code
  cases hcode.symm.trans h2
  refine mz_wor (Q := mz_Z G rm below (va_A (mz_w G.2.2 ad n f) s.heap.size) ad n post (fun _ _ _ => False) (vs.map (mz_v ad)).toArray s) (fun t q => ?_) ?_
  · rcases q with q | ⟨_, _, _, _, _, _, _, _, _, z, _⟩
    · exact q
    · exact z.elim
  exact h (Nat.zero_le _) (Nat.zero_le _) (mz_okL0 hok) (fun _ hh => by cases hh) p e s m _ below meth c (va_A (mz_w G.2.2 ad n f) s.heap.size) s.heap [] _ ad ad n
    ⟨B.exec, B.bytes, hml, B.returns, hown, fun hi => (by cases hi), ⟨B.notSynchronized, fun z => absurd rfl z, fun _ => h5⟩, fun w hw => hts w (List.mem_cons_of_mem _ hw), hns, hK, fun q hq => Or.inr hq⟩
    ⟨hP, hD0.self, va_S.rf, hwf, Nat.le_refl _, fun _ _ => rfl, hxt⟩ (mz_lv0 hlen)
/-- a handler of the table 'hh' for 'ec' at 'pc': its pc -/
def mk_hd (pc : Nat) (ec : String) (hh : List (Nat × Nat × Nat × Nat)) (hpc : Nat) : Prop := ∃ h1 x h2, hh = h1 ++ x :: h2 ∧ (∀ y ∈ h1, y.2.2.2 ≠ 0 ∧ ∃ C, Cond.classLink (nm_Own 13) y.2.2.2 C ∈ nm_Ts ∧ Cond.not (.castable ec C) ∈ nm_Ns) ∧ (x.1 ≤ pc ∧ pc < x.2.1) ∧ x.2.2.2 ≠ 0 ∧ (∃ C, Cond.classLink (nm_Own 13) x.2.2.2 C ∈ nm_Ts ∧ Cond.castable ec C ∈ nm_Ns) ∧ x.2.2.1 = hpc
/-- what stands at a handler: the reference is laid away, a number is answered -/
def mk_ha (cc : ByteArray) (nL hpc : Nat) (v : Int32) : Prop := ∃ i pc1 w, ((decode cc hpc = .ok (.astore i, 2) ∧ pc1 = hpc + 2) ∨ (∃ k : Fin 4, decode cc hpc = .ok (.astore_n k, 1) ∧ (k : Nat) = i ∧ pc1 = hpc + 1)) ∧ i < nL ∧ decode cc pc1 = .ok (.iconst w, 1) ∧ Int32.ofInt w = v ∧ decode cc (pc1 + 1) = .ok (.ireturn, 1)
section MZT
variable {G : mz_G} {X : mz_E} {cc : ByteArray} {nL : Nat} {rm : Room} {post : Option Value → Nat → mz_H → Prop} {thr : String → Nat → mz_H → Prop} {pc : Nat} {l : mz_L} {k1 k2 n : Nat} {f : mz_H}
variable {y : MethodName} {cc' : ByteArray} {nL' : Nat} {ret' : Option FieldType} {rm' : Room} {post' : Option Value → Nat → mz_H → Prop} {thr' : String → Nat → mz_H → Prop} {rest As : List Value} {idx : Nat}
theorem mz_callT {b ci na cn' : Nat} {fs : List Value} {q : vw_C} (hd : decode cc pc = .ok (.invokevirtual idx, 3)) (hlk : Cond.methodLink (nm_Own 13) idx y ∈ nm_Ts) (hw : Cond.instanceMethod y ∈ nm_Ts ∧ Cond.selects y.cls y y ∈ nm_Ts ∧ Cond.initialized y.cls ∈ nm_Ts ∧ Cond.code y cc' nL' ret' ∈ nm_Ts ∧ mz_cl1 y na) (hna : As.length = na) (hyp : plainName y.cls = true) (hcn : y.cls = nm_Own cn') (h13 : cn' ≠ 13) (hlen : (mz_la (.ref b :: As)).length ≤ nL') {l' : mz_L} (hl' : mz_l0 nL' (.ref b :: As) = l')
    (hc : mz_X G X cn' false cc' nL' ret' rm' post' thr' 0 l' [] 0 0 n f) (hb2 : f b = .inr (ci, fs)) (hq : nm_Cl[ci]? = some q) (hqy : q.1 = y.cls) (hrm : mz_rmOk rm rm' nL' k1 k2) (hW : (rest.map fun v => v.category).sum ≤ 8) {st : List Value} (hst : st = As.reverse ++ .ref b :: rest)
    (kk : ∀ v n' f', post' v n' f' → mz_X G X 13 false cc nL (some .int) rm post thr (pc + 3) l (v.toList ++ rest) (k1 + rm'.cells) (k2 + rm'.slots) n' f')
    (kt : ∀ ec n' f', thr' ec n' f' → ∃ hpc v, mk_hd pc ec (nm_Hd cc) hpc ∧ mk_ha cc nL hpc v ∧ post (some (.int v)) n' f') : mz_X G X 13 false cc nL (some .int) rm post thr pc l st k1 k2 n f := by
  subst hst
  subst hl'
  intro hk1 hk2 hol hos p e s m args below meth c A H locs ls ad ad0 n0 ok rep hl
  obtain ⟨hx, hb, hml, hr, hown, hin, hlocks, hts, hns, hK, hA⟩ := id ok
  obtain ⟨rP, rD, rS, rW, rN, rA, rX⟩ := id rep
  obtain ⟨w1, w2, w3, w4, hd1, hd2, hd3⟩ := hw
  have hosA : mz_okS n (.ref b :: As) := mz_okS_c (hos _ (List.mem_append_right _ List.mem_cons_self)) (fun v hv => hos v (List.mem_append_left _ (List.mem_reverse.mpr hv)))
  have hosR : mz_okS n rest := fun v hv => hos v (List.mem_append_right _ (List.mem_cons_of_mem _ hv))
  have hnd : b < n := by
    rcases hosA _ List.mem_cons_self with z | z
    · exact z
    · exfalso
      rw [rW.2.2 b (Nat.le_trans rW.1 z)] at hb2
      have h2 : ci = 1000 := by injection hb2 with h2; injection h2 with h2; exact h2.symm
      rw [h2] at hq
      exact absurd hq nm_Cl_1000
  have hg0 := mz_w_get (tA := G.2.2) (ad := ad) (f := f) hnd
  rw [hb2] at hg0
  obtain ⟨cellB, hcellB, hobjB, hclsB⟩ := va_recv hK rP hq hg0
  rw [hqy] at hclsB
  have hstk : ((As.reverse ++ Value.ref b :: rest).map (mz_v ad)) = (As.map (mz_v ad)).reverse ++ .ref (ad b) :: rest.map (mz_v ad) := by
    rw [List.map_append, List.map_reverse]; rfl
  rw [hstk]
  have hW2 : ((rest.map (mz_v ad)).map fun v => v.category).sum ≤ 8 := by
    rw [List.map_map, show ((fun v : Value => v.category) ∘ mz_v ad) = (fun v => v.category) from funext (mz_v_cat ad)]; exact hW
  intro T hT S
  subst hT
  obtain ⟨mk, methM, hnamed, hmethM, hstM, habM⟩ := Cond.instanceMethod_spec (hts _ w1)
  obtain ⟨methM', cM, hmethM', hcM, hbyM, hmlM, hretM, hloM, hemM, hsigM⟩ := Cond.code_spec hnamed (hts _ w4)
  cases hmethM.symm.trans hmethM'
  obtain ⟨c2, r2, m2, q1, q2, q3, q4, kP, hkP, hkPi⟩ := Cond.selects_spec (hts _ w2)
  cases hclsB.symm.trans q1
  cases (State.methodFound?_of_named hnamed ⟨hd1, hd2⟩).symm.trans q2
  cases hnamed.symm.trans q3
  have hselP : selectMethod e.platform s.vm cellB.cls mk = .method mk := by rw [Launch.admits_selectMethod S.admits]; exact q4
  have hlenA : (As.map (mz_v ad)).length = methM.sig.parameters.length := by
    rw [List.length_map, hna]
    rw [hsigM] at hd3
    injection hd3 with hd3
    exact hd3.symm
  obtain ⟨g, hg⟩ : ∃ g, g = F0 m pc ls ((As.map (mz_v ad)).reverse ++ .ref (ad b) :: rest.map (mz_v ad)) := ⟨_, rfl⟩
  rw [← hg]
  have hgm : g.method = m := by rw [hg]
  obtain ⟨vm₁, X₁, hstep₁⟩ := S.invokevirtual hx hown (hts _ hlk) hnamed hmethM hstM hkP hkPi ⟨hd1, hd2⟩ (a := ad b) (cell := cellB) hcellB (fun z h => by rw [h] at hobjB; cases hobjB) hselP hmethM habM hkP hkPi (g := g) hgm (argsL := As.map (mz_v ad)) (rest := rest.map (mz_v ad)) hlenA (by rw [hg]) (by rw [hb, hg]; exact hd)
  obtain ⟨g', hg'⟩ : ∃ g', g' = { g with stack := rest.map (mz_v ad) } := ⟨_, rfl⟩
  have hgm' : g'.method = m := by rw [hg']; exact hgm
  have hpc' : g'.pc = pc := by rw [hg', hg]
  have hsz' : g'.locals.size = c.maxLocals := by rw [hg', hg, hml]; exact hl.1
  have hdg' : decode c.code g'.pc = .ok (.invokevirtual idx, 3) := by rw [hb, hpc']; exact hd
  obtain ⟨k9, hk9, hnm9⟩ := className_of_methodNamed hnamed
  have hpk : (T.setVm vm₁).plainMethod mk := X₁.warmed.plainAt (fun k hk => by cases hk9.symm.trans hk; rw [hnm9]; exact hyp)
  obtain ⟨Y, hent⟩ := X₁.into (g := g') hgm' hsz' hdg' (mk := mk) (methk := methM) (ck := cM) (Value.ref (ad b) :: As.map (mz_v ad)).toArray (R' := rm') (by rw [X₁.warmed.alike.method?]; exact hmethM) hcM hloM hpk hrm.1.1 (by
    have e0 : g'.monitorRoom = 0 := by rw [hg', hg]
    have e1 : (g'.stack.map fun v => v.category).sum ≤ 8 := by rw [hg']; exact hW2
    have e2 := hrm.1.2
    rw [hmlM]
    omega) hrm.2.1 hrm.2.2
  have hown' : (T.setVm vm₁).vm.findClass (nm_Own cn') = some mk.cls := by rw [← hcn]; exact findClass_of_methodNamed (X₁.named hnamed)
  have hpcb : mz_pc G X ad T.heap.size (.ref b :: As) n f ((Value.ref b :: As).map (mz_v ad)).toArray ((T.setVm vm₁).calling g' mk ((Value.ref b :: As).map (mz_v ad)).toArray) := mz_pc_blind _ _ g' mk (mz_pc_at (vs := .ref b :: As) hns hK hA (fun _ _ h => h) rep (T.setVm vm₁) rfl X₁.warmed)
  obtain ⟨-, hpsz, hpP, hpK, hpD, hpN, hpX⟩ := hpcb
  have hE : entryFrame mk (Value.ref (ad b) :: As.map (mz_v ad)).toArray cM.maxLocals = F0 mk 0 (lg_sl ((Value.ref b :: As).map (mz_v ad)) ++ List.replicate (nL' - (lg_sl ((Value.ref b :: As).map (mz_v ad))).length) Slot.unset).toArray [] := by
    rw [hmlM]
    exact lg_entry_eq ..
  obtain ⟨t, ht, hzz⟩ := hc (Nat.zero_le _) (Nat.zero_le _) (mz_okL0 hosA) (fun _ hh => by cases hh) p e ((T.setVm vm₁).calling g' mk ((Value.ref b :: As).map (mz_v ad)).toArray) mk ((Value.ref b :: As).map (mz_v ad)).toArray (.java g' :: below) methM cM (va_A (mz_w G.2.2 ad n f) T.heap.size) T.heap [] _ ad ad n
    ⟨hx, hbyM, hmlM, hretM, hown', fun h => (by cases h), ⟨hloM, fun _ => hemM, fun h => absurd h h13⟩, fun w hw => word_at (U := (T.setVm vm₁).calling g' mk ((Value.ref b :: As).map (mz_v ad)).toArray) X₁.warmed (good_of_word (nm_good w hw)) (hts w hw), hpN, hpK, fun q hq => Or.inr hq⟩
    ⟨hpP, hpD.self, va_S.rf, rW, Nat.le_refl _, fun _ _ => rfl, hpX⟩ (mz_lv0 hlen) (((T.setVm vm₁).setTop g').pushFrame (.java (entryFrame mk (Value.ref (ad b) :: As.map (mz_v ad)).toArray cM.maxLocals))) rfl Y
  have ht2 : Steps p.tables e (.java g' :: below) ((((T.setVm vm₁).setTop g').pushFrame (.java (entryFrame mk (Value.ref (ad b) :: As.map (mz_v ad)).toArray cM.maxLocals))).setTop (entryFrame mk (Value.ref (ad b) :: As.map (mz_v ad)).toArray cM.maxLocals)) t := by
    have q := ht
    rw [show F0 mk 0 (lg_sl ((Value.ref b :: As).map (mz_v ad)) ++ List.replicate (nL' - (lg_sl ((Value.ref b :: As).map (mz_v ad))).length) Slot.unset).toArray (List.map (mz_v ad) []) = entryFrame mk (Value.ref (ad b) :: As.map (mz_v ad)).toArray cM.maxLocals from hE.symm] at q
    exact q
  have hFc : ∀ q, va_A (mz_w G.2.2 ad n f) T.heap.size q → A q := by
    intro q hq
    rcases hq with ⟨k, e, hk⟩ | hq
    · exact rD.2 k _ hk
    · exact hA q (Nat.le_trans rS.1 hq)
  rcases hzz with ⟨o, hrun, hend, ⟨v, ad', n', f', hv, hp, hP1, hD1, ⟨hz, hk⟩, hW1, hn1, ha1, hov⟩, L, ⟨-, hWe, hsame⟩, hL⟩ | ⟨xa, ec, cell, ad', n', f', L, hrun, hend, hp, hcell, hobj, hunk, hcls, hP1, hD1, ⟨hz, hk⟩, hW1, hn1, ha1, hWe, hsame, hL⟩
  · subst hv
    obtain ⟨T', X', hW', hB', hteq⟩ := X₁.outOf hgm' hdg' hend hWe hsame
    have e1 : T'.heap = t.heap := by first | (rw [hteq]; done) | (rw [hteq]; rfl)
    have hn2 : n0 ≤ n' := Nat.le_trans rN hn1
    have ha2 : ∀ k, k < n0 ∨ mz_e0 ≤ k → ad' k = ad0 k := fun k hk' => (ha1 k (hk'.imp (fun z => Nat.lt_of_lt_of_le z rN) id)).trans (rA k hk')
    have hokL' : mz_okL n' l := fun w hw => mz_okV_mono hn1 (hol w hw)
    have hokS' : mz_okS n' (v.toList ++ rest) := by
      intro w hw
      rcases List.mem_append.mp hw with q | q
      · cases v with
        | none => cases q
        | some x =>
          rcases List.mem_cons.mp q with q | q
          · rw [q]; exact hov x rfl
          · cases q
      · exact mz_okV_mono hn1 (hosR w q)
    obtain ⟨t2, a1, b1⟩ := kk v n' f' hp hrm.2.1 hrm.2.2 hokL' hokS' p e s m args below meth c A T'.heap (locs ++ L) ls ad' ad0 n0 ok
      ⟨by rw [e1]; exact hP1, hD1.weaken (fun _ q _ hq => hFc _ hq), ⟨Nat.le_trans rS.1 (by rw [e1]; exact hz), fun q h1 h2 => by rw [e1, hk q (Nat.lt_of_lt_of_le h1 rS.1) (fun z => h2 (hFc q z))]; exact rS.2.1 q h1 h2, fun q hq => by
        rcases List.mem_append.mp hq with h | h
        · exact rS.2.2 q h
        · exact hFc _ (hL q h)⟩, hW1, hn2, ha2, mz_xt_ad (fun k hk' => ha1 k (Or.inr hk')) rX⟩ (mz_lv_eq ha1 hol hl) T' rfl X'
    refine ⟨t2, hstep₁ t2 (fun acts => ?_), b1⟩
    rw [← hg', hent acts]
    refine (mk_weaken (mid := [.java g']) ht2).trans ?_
    rw [hteq]
    have eS : (v.toList ++ rest).map (mz_v ad') = (v.map (mz_v ad')).toList ++ rest.map (mz_v ad) := by
      rw [List.map_append, mz_s_eq ha1 hosR]
      cases v <;> rfl
    rw [eS] at a1
    subst hg'
    subst hg
    exact a1
  · obtain ⟨T', X', hW', hB', hteq⟩ := X₁.outOfThrown hgm' hend hWe hsame
    have e1 : T'.heap = t.heap := by first | (rw [hteq]; done) | (rw [hteq]; rfl)
    have hn2 : n0 ≤ n' := Nat.le_trans rN hn1
    have ha2 : ∀ k, k < n0 ∨ mz_e0 ≤ k → ad' k = ad0 k := fun k hk' => (ha1 k (hk'.imp (fun z => Nat.lt_of_lt_of_le z rN) id)).trans (rA k hk')
    obtain ⟨hpc, v, ⟨h1, x, h2, hhh, hpas, hcov, hx0, ⟨C, hlC, hcC⟩, hxe⟩, ⟨i, pc1, w, hast, hiL, hic, hwv, hir⟩, hpost⟩ := kt ec n' f' hp
    have htab := hlocks.2.2 rfl
    rw [hhh] at htab
    obtain ⟨l1, l2, hl12, hm1, hm2⟩ := List.map_eq_append_iff.mp htab
    obtain ⟨x', l3, hl3, hx', hm3⟩ := List.map_eq_cons_iff.mp hm2
    subst hl3
    subst hx'
    subst hxe
    have hfc : s.vm.findClass ec = some cell.cls := by
      have z := hcls
      rw [show ((T.setVm vm₁).calling g' mk ((Value.ref b :: As).map (mz_v ad)).toArray).vm.findClass ec = s.vm.findClass ec from X₁.warmed.alike.findClass ec _] at z
      exact z
    have hcell' : T'.heap[xa]? = some cell := by rw [e1]; exact hcell
    obtain ⟨cc1, ct1, hq1, hq2, hq3⟩ := Cond.castable_spec (va_Nw.use (A := args) rfl (hns _ hcC))
    cases hfc.symm.trans hq1
    obtain ⟨hrow, hkk⟩ := X'.catches_of_link hown (x := x') hx0 (hts _ hlC) hq2 hq3
    have hpl : e.platform.magicAccessors = ({} : Platform).magicAccessors := by rw [S.admits.platform]
    obtain ⟨vm', X'', hgo⟩ := X'.caughtThrough xa (g := g') hgm' hcell' hobj hkk l1 x' l3 hl12 (fun y hy => by
      obtain ⟨h0, C', z1, z2⟩ := hpas _ (by rw [← hm1]; exact List.mem_map_of_mem hy)
      exact RowPassed.of_words hpl hown h0 (hts _ z1) hfc (hns _ z2)) (by rw [hpc']; simp [covers]; exact hcov) hrow
    have hlocsA : ∀ q ∈ locs ++ L, A q.base := fun q hq => by
      rcases List.mem_append.mp hq with h | h
      · exact rS.2.2 q h
      · exact hFc _ (hL q h)
    have rS' : va_S A s.heap T'.heap (locs ++ L) := ⟨Nat.le_trans rS.1 (by rw [e1]; exact hz), fun q h1 h2 => by rw [e1, hk q (Nat.lt_of_lt_of_le h1 rS.1) (fun z => h2 (hFc q z))]; exact rS.2.1 q h1 h2, hlocsA⟩
    have fin : ∀ ls' : Array Slot, W p G.1 e rm s m args below meth c T'.heap (locs ++ L) (k1 + rm'.cells) (k2 + rm'.slots) (mz_Z G rm below A ad0 n0 post thr args s) (F0 m pc1 ls' []) := fun ls' => lv_iconst hx hb hic hwv (W.widen (k := rm.cells) (n := rm.slots) hrm.2.1 hrm.2.2 <| mz_wor (fun _ q => Or.inl q) <| W.zret hx hb hr rfl (fun t ht hW => ⟨some (.int v), ad', n', f', rfl, hpost, by rw [ht, e1]; exact hP1, hD1.weaken (fun _ q _ hq => hFc _ hq), rS'.F ht, hW1, hn2, ha2, fun y hy => by cases hy; trivial⟩) hlocsA hir hlocks.1)
    have hrun2 : W p G.1 e rm s m args below meth c T'.heap (locs ++ L) (k1 + rm'.cells) (k2 + rm'.slots) (mz_Z G rm below A ad0 n0 post thr args s) (F0 m x'.handlerPc ls [.ref xa]) := by
      rcases hast with ⟨z1, z2⟩ | ⟨k, z1, z2, z3⟩
      · subst z2; exact lv_astore hx hb z1 hl hiL rfl (fun ls' _ => fin ls')
      · subst z3; exact lv_astore_n hx hb z1 z2 hl hiL rfl (fun ls' _ => fin ls')
    obtain ⟨t2, a1, b1⟩ := hrun2 (T'.setVm vm') rfl X''
    refine ⟨t2, hstep₁ t2 (fun acts => ?_), b1⟩
    rw [← hg', hent acts]
    refine (mk_weaken (mid := [.java g']) ht2).trans ?_
    rw [hteq, X'.pushThrowing_eq g' xa]
    refine hgo t2 ?_
    subst hg'
    subst hg
    exact a1
end MZT
section MZU
variable {G : mz_G} {X X' : mz_E} {cn : Nat} {ini : Bool} {cc : ByteArray} {nL : Nat} {ret : Option FieldType} {rm : Room} {post : Option Value → Nat → mz_H → Prop} {thr : String → Nat → mz_H → Prop} {pc : Nat} {l : mz_L} {k1 k2 n : Nat} {f : mz_H}
variable {y : MethodName} {cc' : ByteArray} {nL' : Nat} {ret' : Option FieldType} {rm' : Room} {post' : Option Value → Nat → mz_H → Prop} {rest As : List Value} {idx : Nat}
/-- a call of such a method -/
theorem mz_callSW {na : Nat} (hd : decode cc pc = .ok (.invokestatic idx, 3)) (hw : Cond.methodLink (nm_Own cn) idx y ∈ nm_Ts ∧ Cond.static y ∈ nm_Ts ∧ Cond.initialized y.cls ∈ nm_Ts ∧ Cond.codeWith y cc' nL' ret' (nm_Hd cc') ∈ nm_Ts ∧ mz_cl1 y na) (hna : As.length = na) (hX : ∀ a q, X' a = some q → X a = some q) (hc : mz_CtW G X' y cc' nL' ret' rm' As n f post') (hrm : mz_rmOk rm rm' nL' k1 k2) (hW : (rest.map fun v => v.category).sum ≤ 8)
    {st : List Value} (hst : st = As.reverse ++ rest) (kk : ∀ v n' f', post' v n' f' → mz_X G X cn ini cc nL ret rm post thr (pc + 3) l (v.toList ++ rest) (k1 + rm'.cells) (k2 + rm'.slots) n' f') : mz_X G X cn ini cc nL ret rm post thr pc l st k1 k2 n f := by
  subst hst
  intro hk1 hk2 hol hos p e s m args below meth c A H locs ls ad ad0 n0 ok rep hl
  obtain ⟨hx, hb, hml, hr, hown, hin, hlocks, hts, hns, hK, hA⟩ := id ok
  obtain ⟨rP, rD, rS, rW, rN, rA, rX⟩ := id rep
  obtain ⟨hlk, w1, w3, w4, hd1, hd2, hd3⟩ := hw
  have hosA : mz_okS n As := fun v hv => hos v (List.mem_append_left _ (List.mem_reverse.mpr hv))
  have hosR : mz_okS n rest := fun v hv => hos v (List.mem_append_right _ hv)
  have hM := hc ad H.size rW hosA
  have hst : ((As.reverse ++ rest).map (mz_v ad)) = (As.map (mz_v ad)).reverse ++ rest.map (mz_v ad) := by
    rw [List.map_append, List.map_reverse]
  rw [hst]
  have hW2 : ((rest.map (mz_v ad)).map fun v => v.category).sum ≤ 8 := by
    rw [List.map_map, show ((fun v : Value => v.category) ∘ mz_v ad) = (fun v => v.category) from funext (mz_v_cat ad)]; exact hW
  have hps : PreS s H (mz_pc G X' ad H.size As n f) (As.map (mz_v ad)) := ⟨mz_pc_blind, mz_pc_at (vs := As) hns hK hA hX rep⟩
  have hgw : ∀ w ∈ mz_wsW y cc' nL' ret', ∀ a' U, s.WarmedH U.vm → w.before a' U = true := fun w hq a' U hWU => by
    have hq' : w ∈ nm_Ts := by
      rcases List.mem_cons.mp hq with rfl | z
      · exact w4
      · exact z
    exact word_at hWU (good_of_word (nm_good w hq')) (hts w hq')
  have hB : Back G.1 rm p e below s args y 3 8 (PreOf rm rm'.cells rm'.slots (mz_pc G X' ad H.size As n f)) (PostOf (mz_q G (va_A (mz_w G.2.2 ad n f) H.size) ad n post') rm'.cells rm'.slots (va_A (mz_w G.2.2 ad n f) H.size)) := va_backW (hh := nm_Hd cc') (bytes := cc') (maxL := nL') (ret := ret') hM hps.1 rfl rfl hrm.1.1 hrm.1.2 hgw List.mem_cons_self (fun a' U hWU => word_at hWU (good_of_word (nm_good _ w3)) (hts _ w3))
  refine mz_cont (rm' := rm') (post' := post') (a := (As.map (mz_v ad)).toArray) ?_ hrm.2 hol hosR ok rep hl kk
  intro T hT S
  obtain ⟨mk, methM, cM, hnamed, hmethM, -, -, -, -, -, -, hsigM⟩ := Cond.codeWith_spec (hts _ w4)
  have hstatic : methM.isStatic = true := Cond.static_spec hnamed hmethM (hts _ w1)
  obtain ⟨kP, hkP, -⟩ := className_of_methodNamed hnamed
  have hinitP : kP.init = .initialized := Cond.initialized_spec (findClass_of_methodNamed hnamed) hkP (hts _ w3)
  have hlenA : (As.map (mz_v ad)).length = methM.sig.parameters.length := by
    rw [List.length_map, hna]
    rw [hsigM] at hd3
    injection hd3 with hd3
    exact hd3.symm
  obtain ⟨vm₁, X₁, hstep₁⟩ := S.invokestatic hx hown (hts _ hlk) hnamed hmethM hstatic hkP hinitP ⟨hd1, hd2⟩ (g := F0 m pc ls ((As.map (mz_v ad)).reverse ++ rest.map (mz_v ad))) rfl (argsL := As.map (mz_v ad)) (rest := rest.map (mz_v ad)) hlenA rfl (by rw [hb]; exact hd)
  obtain ⟨v, ⟨U', l2, c2, s2⟩, X', ⟨g', mk', t, L, e1, e2, hq, h1, hL, h2, h3⟩, hsteps⟩ := hB m meth c ⟨T.setVm vm₁, locs, k1, k2⟩ (F0 m pc ls (rest.map (mz_v ad))) (.invokestatic idx) mk (As.map (mz_v ad)).toArray X₁ rfl (hl.1.trans hml.symm) (by rw [hb]; exact hd) (lv_room hW2) (X₁.named hnamed) ⟨hrm.2.1, hrm.2.2, hps.2 (T.setVm vm₁) hT X₁.warmed⟩
  dsimp only [Pt.U, Pt.locs, Pt.cells, Pt.slots] at X' e1 e2 h1 h2 h3 hsteps
  subst h1; subst h2; subst h3
  exact ⟨v, (T.setVm vm₁).calling g' mk' (As.map (mz_v ad)).toArray, t, U', L, hT, X', hL, e1, e2, hq, fun target h => hstep₁ _ fun acts => by rw [doInvoke_state]; exact hsteps.trans h⟩
end MZU
