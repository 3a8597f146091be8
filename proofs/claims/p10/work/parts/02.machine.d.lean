/-! contracts over the machine, and calls -/
def mz_ws (y : MethodName) (cc : ByteArray) (nL : Nat) (ret : Option FieldType) : List Cond := .code y cc nL ret :: nm_Ts
def mz_la (vs : List Value) : mz_L := vs.flatMap (fun v => if v.category = 2 then [some v, none] else [some v])
def mz_l0 (nL : Nat) (vs : List Value) : mz_L := mz_la vs ++ List.replicate (nL - (mz_la vs).length) none
def mz_sl (ad : Nat → Nat) (o : Option Value) : Slot := match o with
  | some v => .val (mz_v ad v)
  | none => .second
theorem mz_sl_eq (ad : Nat → Nat) (vs : List Value) : lg_sl (vs.map (mz_v ad)) = (mz_la vs).map (mz_sl ad) := by
  induction vs with
  | nil => rfl
  | cons v vs ih =>
    show (if (mz_v ad v).category = 2 then [Slot.val (mz_v ad v), Slot.second] else [Slot.val (mz_v ad v)]) ++ lg_sl (vs.map (mz_v ad)) = ((if v.category = 2 then [some v, none] else [some v]) ++ mz_la vs).map (mz_sl ad)
    rw [ih, mz_v_cat, List.map_append]
    split <;> rfl
theorem mz_lv0 {ad : Nat → Nat} {nL : Nat} {vs : List Value} (h : (mz_la vs).length ≤ nL) : mz_lv ad (lg_sl (vs.map (mz_v ad)) ++ List.replicate (nL - (lg_sl (vs.map (mz_v ad))).length) Slot.unset).toArray nL (mz_l0 nL vs) := by
  have h0 := lv_entry (vs.map (mz_v ad)) (n := nL) (by rw [mz_sl_eq, List.length_map]; exact h)
  refine ⟨h0.1, h0.2.1, fun q hq => ?_⟩
  obtain ⟨j, w⟩ := q
  obtain ⟨x, h1, rfl⟩ := mz_pr_mem.mp hq
  unfold mz_l0 at h1
  by_cases hj : j < (mz_la vs).length
  · rw [List.getElem?_append_left hj] at h1
    show (lg_sl (vs.map (mz_v ad)) ++ List.replicate (nL - (lg_sl (vs.map (mz_v ad))).length) Slot.unset).toArray[j]? = some (.val (mz_v ad x))
    rw [List.getElem?_toArray, mz_sl_eq, List.getElem?_append_left (by rw [List.length_map]; exact hj), List.getElem?_map, h1]
    rfl
  · rw [List.getElem?_append_right (by omega)] at h1
    have := List.eq_of_mem_replicate (List.mem_of_getElem? h1)
    cases this
theorem mz_la_mem {v : Value} {vs : List Value} (h : some v ∈ mz_la vs) : v ∈ vs := by
  obtain ⟨w, hw, h2⟩ := List.mem_flatMap.mp h
  split at h2
  · rcases List.mem_cons.mp h2 with q | q
    · cases q; exact hw
    · rcases List.mem_cons.mp q with q | q
      · cases q
      · cases q
  · rcases List.mem_cons.mp h2 with q | q
    · cases q; exact hw
    · cases q
theorem mz_okL0 {n nL : Nat} {vs : List Value} (h : mz_okS n vs) : mz_okL n (mz_l0 nL vs) := by
  intro v hv
  rcases List.mem_append.mp hv with q | q
  · exact h v (mz_la_mem q)
  · have := List.eq_of_mem_replicate q
    cases this
def mz_pc (G : mz_G) (X : mz_E) (ad : Nat → Nat) (sz : Nat) (vs : List Value) (n : Nat) (f : mz_H) : Array Value → State → Prop :=
  va_Pc (vs.map (mz_v ad)) (fun U => U.heap.size = sz ∧ va_P G.2.1 nm_Cl (mz_w G.2.2 ad n f) U.heap ∧ va_K G.2.1 nm_Cl (mz_ty G.2.2) U ∧ va_D (fun _ => True) (mz_w G.2.2 ad n f) ∧ (∀ w ∈ nm_Ns, va_Nw w U) ∧ mz_xt ad (va_A (mz_w G.2.2 ad n f) sz) X U U.heap)
/-- the method y, called with vs over the cells (n, f), comes back, and 'post' holds of its answer and the cells then -/
def mz_Ct (G : mz_G) (X : mz_E) (y : MethodName) (cc : ByteArray) (nL : Nat) (ret : Option FieldType) (rm : Room) (vs : List Value) (n : Nat) (f : mz_H) (post : Option Value → Nat → mz_H → Prop) : Prop :=
  ∀ (ad : Nat → Nat) (sz : Nat), mz_wf n f → mz_okS n vs → Met G.1 y (mz_ws y cc nL ret) rm (mz_pc G X ad sz vs n f) (mz_q G (va_A (mz_w G.2.2 ad n f) sz) ad n post) rm.cells rm.slots (va_A (mz_w G.2.2 ad n f) sz)
theorem mz_Ct_of {G : mz_G} {X : mz_E} {y : MethodName} {cc : ByteArray} {nL : Nat} {ret : Option FieldType} {rm : Room} {vs : List Value} {n : Nat} {f : mz_H} {post : Option Value → Nat → mz_H → Prop} (cn : Nat) (ini : Bool) (hy : plainName y.cls = true) (hcn : y.cls = nm_Own cn) (hin : ini = true → y.name = "<init>") (hlen : (mz_la vs).length ≤ nL) (hh : cn = 13 → nm_Hd cc = [])
    (h : mz_X G X cn ini cc nL ret rm post (fun _ _ _ => False) 0 (mz_l0 nL vs) [] 0 0 n f) : mz_Ct G X y cc nL ret rm vs n f post := by
  intro ad sz hwf hok
  refine Met.ofW (cc := cc) (maxL := nL) (ret := ret) hy rfl ?_
  intro p e s m args below meth c s₁ B hml hv
  obtain ⟨rfl, rfl, hP, hK, hD0, hns, hxt⟩ := hv
  rw [lg_entry_eq]
  have hts := atoms_spec (ws := mz_ws y cc nL ret) B.pre
  have hown : s.vm.findClass y.cls = some m.cls := findClass_of_methodNamed B.named
  rw [hcn] at hown
  refine mz_wor (Q := mz_Z G rm below (va_A (mz_w G.2.2 ad n f) s.heap.size) ad n post (fun _ _ _ => False) (vs.map (mz_v ad)).toArray s) (fun t q => ?_) ?_
  · rcases q with q | ⟨_, _, _, _, _, _, _, _, _, z, _⟩
    · exact q
    · exact z.elim
  exact h (Nat.zero_le _) (Nat.zero_le _) (mz_okL0 hok) (fun _ hh => by cases hh) p e s m _ below meth c (va_A (mz_w G.2.2 ad n f) s.heap.size) s.heap [] _ ad ad n
    ⟨B.exec, B.bytes, hml, B.returns, hown, fun hi => (name_of_methodNamed B.named B.method).1.trans (hin hi), ⟨B.notSynchronized, fun _ => B.noHandlers (hts _ List.mem_cons_self), fun h13 => by rw [hh h13, List.map_eq_nil_iff]; exact Array.toList_eq_nil_iff.mpr (Array.isEmpty_iff.mp (B.noHandlers (hts _ List.mem_cons_self)))⟩, fun w hw => hts w (List.mem_cons_of_mem _ hw), hns, hK, fun q hq => Or.inr hq⟩
    ⟨hP, hD0.self, va_S.rf, hwf, Nat.le_refl _, fun _ _ => rfl, hxt⟩ (mz_lv0 hlen)
theorem mz_mono {G : mz_G} {X : mz_E} {cc : ByteArray} {nL : Nat} {ret : Option FieldType} {rm : Room} {post post' : Option Value → Nat → mz_H → Prop} {thr : String → Nat → mz_H → Prop} {cn : Nat} {ini : Bool} {pc : Nat} {l : mz_L} {st : List Value} {k1 k2 n : Nat} {f : mz_H} (hp : ∀ v n' f', post v n' f' → post' v n' f') (h : mz_X G X cn ini cc nL ret rm post thr pc l st k1 k2 n f) : mz_X G X cn ini cc nL ret rm post' thr pc l st k1 k2 n f := by
  intro hk1 hk2 hol hos p e s m args below meth c A H locs ls ad ad0 n0 ok rep hl
  refine mz_wor (fun t q => ?_) (h hk1 hk2 hol hos p e s m args below meth c A H locs ls ad ad0 n0 ok rep hl)
  rcases q with q | q
  · obtain ⟨o, b1, b2, ⟨v, ad', n', f', q1, q2, q3⟩, b3⟩ := q
    exact Or.inl ⟨o, b1, b2, ⟨v, ad', n', f', q1, hp _ _ _ q2, q3⟩, b3⟩
  · exact Or.inr q
theorem mz_goodIn {ws : List Cond} (h : ∀ w ∈ ws, w ∈ nm_Ts) : GoodIn nm_Ts ws := fun w hw => ⟨h w hw, good_of_word (nm_good w (h w hw))⟩
theorem mz_ws_in {y : MethodName} {cc : ByteArray} {nL : Nat} {ret : Option FieldType} (h : Cond.code y cc nL ret ∈ nm_Ts) : ∀ w ∈ mz_ws y cc nL ret, w ∈ nm_Ts := fun w hw => by
  rcases List.mem_cons.mp hw with rfl | q
  · exact h
  · exact q
theorem mz_xt_moved {ad : Nat → Nat} {A A' : Nat → Prop} {X X' : mz_E} {s U : State} {H : Heap} {locs : List Loc} (hvm : s.vm.Alike U.vm) (hS : va_S A s.heap H locs) (hAA : ∀ q, A' q → A q) (hX : ∀ a q, X' a = some q → X a = some q) (h : mz_xt ad A X s s.heap) : mz_xt ad A' X' U H := by
  refine ⟨fun a N g hq => ⟨(h.1 a N g (hX _ _ hq)).1, va_T.moved hvm (((h.1 a N g (hX _ _ hq)).2.kept hS.2.1).narrow hAA)⟩, fun q hq hne => ?_, th_lz_moved hvm hS.2.1 hAA h.2.2.1, th_lz_moved hvm hS.2.1 hAA h.2.2.2⟩
  refine va_Z.moved hvm (((h.2.1 q hq ?_).kept hS.2.1).narrow hAA)
  cases hE : X' q.1 with
  | none => exact absurd hE hne
  | some w => rw [hX _ _ hE]; exact fun z => by cases z
theorem mz_xt_ad {ad ad' : Nat → Nat} {A : Nat → Prop} {X : mz_E} {s : State} {H : Heap} (he : ∀ k, mz_e0 ≤ k → ad' k = ad k) (h : mz_xt ad A X s H) : mz_xt ad' A X s H := by
  refine ⟨fun a N g hq => ⟨(h.1 a N g hq).1, by rw [he a (h.1 a N g hq).1]; exact (h.1 a N g hq).2⟩, fun q hq hne => ?_, h.2.2⟩
  have ha : mz_e0 ≤ q.1 := by
    cases hE : X q.1 with
    | none => exact absurd hE hne
    | some w => exact (h.1 q.1 w.1 w.2 hE).1
  rw [he _ ha]
  exact h.2.1 q hq hne
theorem mz_pc_blind {G : mz_G} {X : mz_E} {ad : Nat → Nat} {sz : Nat} {vs : List Value} {n : Nat} {f : mz_H} : FrameBlind (mz_pc G X ad sz vs n f) := by
  intro a U g mk q
  obtain ⟨q0, q1, qP, qK, qD, qN, qX⟩ := q
  have ha : U.vm.Alike (U.calling g mk a).vm := Vm.Alike.refl U.vm
  exact ⟨q0, q1, qP, va_K.moved ha qK, qD, fun w hw => nm_Ns_call w hw (qN w hw), fun a' N g' h' => ⟨(qX.1 a' N g' h').1, va_T.moved ha (qX.1 a' N g' h').2⟩, fun q hq hne => va_Z.moved ha (qX.2.1 q hq hne), th_lz_moved ha (fun _ _ _ => rfl) (fun _ h => h) qX.2.2.1, th_lz_moved ha (fun _ _ _ => rfl) (fun _ h => h) qX.2.2.2⟩
theorem mz_pc_at {G : mz_G} {X X' : mz_E} {A : Nat → Prop} {s : State} {ad ad0 : Nat → Nat} {n0 n : Nat} {f : mz_H} {H : Heap} {locs : List Loc} {vs : List Value} (hns : ∀ w ∈ nm_Ns, va_Nw w s) (hK : va_K G.2.1 nm_Cl (mz_ty G.2.2) s) (hA : ∀ q, s.heap.size ≤ q → A q) (hX : ∀ a q, X' a = some q → X a = some q) (rep : mz_rep G X A s ad ad0 n0 n f H locs) :
    ∀ U : State, U.heap = H → s.WarmedH U.vm → mz_pc G X' ad H.size vs n f (vs.map (mz_v ad)).toArray U := by
  intro U hU hW
  obtain ⟨rP, rD, rS, rW, rN, rA, rX⟩ := rep
  refine ⟨rfl, by rw [hU], by rw [hU]; exact rP, va_K.moved hW.alike hK, rD.weaken (fun _ _ _ _ => trivial), fun w hw => nm_Ns_warm w hw hW (hns w hw), ?_⟩
  rw [hU]
  refine mz_xt_moved hW.alike rS (fun q hq => ?_) hX rX
  rcases hq with ⟨k, e, hk⟩ | hq
  · exact rD.2 k _ hk
  · exact hA q (Nat.le_trans rS.1 hq)
section MZC
variable {G : mz_G} {X X' : mz_E} {cn : Nat} {ini : Bool} {cc : ByteArray} {nL : Nat} {ret : Option FieldType} {rm : Room} {post : Option Value → Nat → mz_H → Prop} {thr : String → Nat → mz_H → Prop} {pc : Nat} {l : mz_L} {k1 k2 n : Nat} {f : mz_H}
variable {y : MethodName} {cc' : ByteArray} {nL' : Nat} {ret' : Option FieldType} {rm' : Room} {post' : Option Value → Nat → mz_H → Prop} {rest As : List Value} {idx : Nat}
/-- behind a call -/
theorem mz_cont {p : Program} {e : Env} {s : State} {m : MethodId} {args : Array Value} {below : List Frame} {meth : Method} {c : Code} {A : Nat → Prop} {H : Heap} {locs : List Loc} {ls : Array Slot} {ad ad0 : Nat → Nat} {n0 : Nat} {st0 : List Value} {a : Array Value}
    (hr : va_Run p G.1 e rm s m args below meth c H locs k1 k2 rm'.cells rm'.slots (F0 m pc ls st0) (rest.map (mz_v ad)) (mz_q G (va_A (mz_w G.2.2 ad n f) H.size) ad n post' a) (va_A (mz_w G.2.2 ad n f) H.size))
    (hf : k1 + rm'.cells ≤ rm.cells ∧ k2 + rm'.slots ≤ rm.slots) (hol : mz_okL n l) (hos : mz_okS n rest) (ok : mz_ok G cn ini cc nL ret A p s m args meth c) (rep : mz_rep G X A s ad ad0 n0 n f H locs) (hl : mz_lv ad ls nL l)
    (kk : ∀ v n' f', post' v n' f' → mz_X G X cn ini cc nL ret rm post thr (pc + 3) l (v.toList ++ rest) (k1 + rm'.cells) (k2 + rm'.slots) n' f') :
    W p G.1 e rm s m args below meth c H locs k1 k2 (mz_Z G rm below A ad0 n0 post thr args s) (F0 m pc ls st0) := by
  obtain ⟨rP, rD, rS, rW, rN, rA, rX⟩ := id rep
  have hA := ok.2.2.2.2.2.2.2.2.2.2
  have hFc : ∀ q, va_A (mz_w G.2.2 ad n f) H.size q → A q := by
    intro q hq
    rcases hq with ⟨k, e, hk⟩ | hq
    · exact rD.2 k _ hk
    · exact hA q (Nat.le_trans rS.1 hq)
  intro T hT S
  obtain ⟨v', st₀, t, T', L, h0, X', hL, e1, e2, ⟨v, ad', n', f', hv, hp, hP1, hD1, ⟨hz, hk⟩, hW1, hn1, ha1, hov⟩, st⟩ := hr T hT S
  cases hv
  rw [h0] at hz hk
  have hn2 : n0 ≤ n' := Nat.le_trans rN hn1
  have ha2 : ∀ k, k < n0 ∨ mz_e0 ≤ k → ad' k = ad0 k := fun k hk' => (ha1 k (hk'.imp (fun z => Nat.lt_of_lt_of_le z rN) id)).trans (rA k hk')
  have hokL' : mz_okL n' l := fun w hw => mz_okV_mono hn1 (hol w hw)
  have hokS' : mz_okS n' (v.toList ++ rest) := by
    intro w hw
    rcases List.mem_append.mp hw with q | q
    · cases v with
      | none => cases q
      | some x =>
        rcases List.mem_cons.mp q with q | q
        · rw [q]; exact hov x rfl
        · cases q
    · exact mz_okV_mono hn1 (hos w q)
  obtain ⟨t2, a1, b1⟩ := kk v n' f' hp hf.1 hf.2 hokL' hokS' p e s m args below meth c A T'.heap (locs ++ L) ls ad' ad0 n0 ok
    ⟨by rw [e1]; exact hP1, hD1.weaken (fun _ q _ hq => hFc _ hq), ⟨Nat.le_trans rS.1 (by rw [e1]; exact hz), fun q h1 h2 => by rw [e1, hk q (Nat.lt_of_lt_of_le h1 rS.1) (fun z => h2 (hFc q z))]; exact rS.2.1 q h1 h2, fun q hq => by
      rcases List.mem_append.mp hq with h | h
      · exact rS.2.2 q h
      · exact hFc _ (hL q h)⟩, hW1, hn2, ha2, mz_xt_ad (fun k hk' => ha1 k (Or.inr hk')) rX⟩ (mz_lv_eq ha1 hol hl) T' rfl X'
  refine ⟨t2, st t2 ?_, b1⟩
  have eS : (v.toList ++ rest).map (mz_v ad') = (v.map (mz_v ad')).toList ++ rest.map (mz_v ad) := by
    rw [List.map_append, mz_s_eq ha1 hos]
    cases v <;> rfl
  rw [← eS]
  exact a1
abbrev mz_rmOk (rm rm' : Room) (nL' k1 k2 : Nat) : Prop := (rm'.frames + 1 ≤ rm.frames ∧ 8 + (nL' + 11) + rm'.locals ≤ rm.locals) ∧ k1 + rm'.cells ≤ rm.cells ∧ k2 + rm'.slots ≤ rm.slots
abbrev mz_cl1 (y : MethodName) (na : Nat) : Prop := y.cls ≠ "java/lang/invoke/MethodHandle" ∧ y.cls ≠ "java/lang/invoke/VarHandle" ∧ (parseMethodDescriptor y.desc).map (fun d => d.parameters.length) = some na
abbrev mz_cv (cn idx : Nat) (y : MethodName) (cc' : ByteArray) (nL' : Nat) (ret' : Option FieldType) (na : Nat) : Prop :=
  (Cond.methodLink (nm_Own cn) idx y ∈ nm_Ts ∨ Cond.methodLinkNest (nm_Own cn) idx y nm_host ∈ nm_Ns) ∧ Cond.instanceMethod y ∈ nm_Ts ∧ Cond.selects y.cls y y ∈ nm_Ts ∧ Cond.initialized y.cls ∈ nm_Ts ∧ Cond.code y cc' nL' ret' ∈ nm_Ts ∧ mz_cl1 y na
abbrev mz_cs (cn idx : Nat) (y : MethodName) (cc' : ByteArray) (nL' : Nat) (ret' : Option FieldType) (na : Nat) : Prop :=
  (Cond.methodLink (nm_Own cn) idx y ∈ nm_Ts ∨ Cond.methodLinkNest (nm_Own cn) idx y nm_host ∈ nm_Ns) ∧ Cond.static y ∈ nm_Ts ∧ Cond.initialized y.cls ∈ nm_Ts ∧ Cond.code y cc' nL' ret' ∈ nm_Ts ∧ mz_cl1 y na
abbrev mz_ci (cn idx : Nat) (y : MethodName) (cc' : ByteArray) (nL' : Nat) (na : Nat) : Prop :=
  (Cond.methodLink (nm_Own cn) idx y ∈ nm_Ts ∨ Cond.methodLinkNest (nm_Own cn) idx y nm_host ∈ nm_Ns) ∧ Cond.instanceMethod y ∈ nm_Ts ∧ y.name = "<init>" ∧ Cond.initialized y.cls ∈ nm_Ts ∧ Cond.code y cc' nL' none ∈ nm_Ts ∧ mz_cl1 y na
theorem mz_callV {b ci na : Nat} {fs : List Value} {q : vw_C} (hd : decode cc pc = .ok (.invokevirtual idx, 3)) (hw : mz_cv cn idx y cc' nL' ret' na) (hna : As.length = na) (hX : ∀ a q, X' a = some q → X a = some q) (hc : mz_Ct G X' y cc' nL' ret' rm' (.ref b :: As) n f post') (hb2 : f b = .inr (ci, fs)) (hq : nm_Cl[ci]? = some q) (hqy : q.1 = y.cls) (hrm : mz_rmOk rm rm' nL' k1 k2) (hW : (rest.map fun v => v.category).sum ≤ 8)
    {st : List Value} (hst : st = As.reverse ++ .ref b :: rest) (kk : ∀ v n' f', post' v n' f' → mz_X G X cn ini cc nL ret rm post thr (pc + 3) l (v.toList ++ rest) (k1 + rm'.cells) (k2 + rm'.slots) n' f') : mz_X G X cn ini cc nL ret rm post thr pc l st k1 k2 n f := by
  subst hst
  intro hk1 hk2 hol hos p e s m args below meth c A H locs ls ad ad0 n0 ok rep hl
  obtain ⟨hx, hb, hml, hr, hown, hin, hlocks, hts, hns, hK, hA⟩ := id ok
  obtain ⟨rP, rD, rS, rW, rN, rA, rX⟩ := id rep
  obtain ⟨hlk, w1, w2, w3, w4, hd1, hd2, hd3⟩ := hw
  have hosA : mz_okS n (.ref b :: As) := mz_okS_c (hos _ (List.mem_append_right _ List.mem_cons_self)) (fun v hv => hos v (List.mem_append_left _ (List.mem_reverse.mpr hv)))
  have hosR : mz_okS n rest := fun v hv => hos v (List.mem_append_right _ (List.mem_cons_of_mem _ hv))
  have hnd : b < n := by
    rcases hosA _ List.mem_cons_self with z | z
    · exact z
    · exfalso
      rw [rW.2.2 b (Nat.le_trans rW.1 z)] at hb2
      have h2 : ci = 1000 := by injection hb2 with h2; injection h2 with h2; exact h2.symm
      rw [h2] at hq
      exact absurd hq nm_Cl_1000
  have hg := mz_w_get (tA := G.2.2) (ad := ad) (f := f) hnd
  rw [hb2] at hg
  have hM := hc ad H.size rW hosA
  have hrec := va_recv hK rP hq hg
  rw [hqy] at hrec
  have hst : ((As.reverse ++ Value.ref b :: rest).map (mz_v ad)) = (As.map (mz_v ad)).reverse ++ .ref (ad b) :: rest.map (mz_v ad) := by
    rw [List.map_append, List.map_reverse]; rfl
  rw [hst]
  have hW2 : ((rest.map (mz_v ad)).map fun v => v.category).sum ≤ 8 := by
    rw [List.map_map, show ((fun v : Value => v.category) ∘ mz_v ad) = (fun v => v.category) from funext (mz_v_cat ad)]; exact hW
  have hpv : PreV s H y.cls (ad b) (mz_pc G X' ad H.size (.ref b :: As) n f) (As.map (mz_v ad)) := ⟨mz_pc_blind, hrec, mz_pc_at (vs := .ref b :: As) hns hK hA hX rep⟩
  rcases hlk with hlk | hlk
  · refine mz_cont (rm' := rm') (post' := post') (va_runV (As := As.map (mz_v ad)) (rest := rest.map (mz_v ad)) (b := ad b) (C := y.cls) ⟨hx, hb, hml, hown, hts⟩ hM (cwV na hts (mz_goodIn (fun w hw => ?_)) rfl rfl rfl ⟨rfl, hd1, hd2, hd3⟩ hrm.1) hpv rfl (by rw [List.length_map]; exact hna) hl.1 rfl (lv_room hW2) hd hrm.2) hrm.2 hol hosR ok rep hl kk
    rcases List.mem_append.mp hw with z | z
    · simp only [List.mem_cons, List.not_mem_nil, or_false] at z
      rcases z with rfl | rfl | rfl | rfl
      · exact hlk
      · exact w1
      · exact w2
      · exact w3
    · exact mz_ws_in w4 w z
  · exact mz_cont (rm' := rm') (post' := post') (va_runVN (As := As.map (mz_v ad)) (rest := rest.map (mz_v ad)) (b := ad b) (C := y.cls) ⟨hx, hb, hml, hown, hts⟩ hM ⟨va_cnB na hts (mz_goodIn (mz_ws_in w4)) rfl rfl rfl (hns _ hlk) (hts _ w3) ⟨hd1, hd2, hd3⟩ hrm.1, hts _ w1, hts _ w2⟩ hpv rfl (by rw [List.length_map]; exact hna) hl.1 rfl (lv_room hW2) hd hrm.2) hrm.2 hol hosR ok rep hl kk
theorem mz_callS {na : Nat} (hd : decode cc pc = .ok (.invokestatic idx, 3)) (hw : mz_cs cn idx y cc' nL' ret' na) (hna : As.length = na) (hX : ∀ a q, X' a = some q → X a = some q) (hc : mz_Ct G X' y cc' nL' ret' rm' As n f post') (hrm : mz_rmOk rm rm' nL' k1 k2) (hW : (rest.map fun v => v.category).sum ≤ 8)
    {st : List Value} (hst : st = As.reverse ++ rest) (kk : ∀ v n' f', post' v n' f' → mz_X G X cn ini cc nL ret rm post thr (pc + 3) l (v.toList ++ rest) (k1 + rm'.cells) (k2 + rm'.slots) n' f') : mz_X G X cn ini cc nL ret rm post thr pc l st k1 k2 n f := by
  subst hst
  intro hk1 hk2 hol hos p e s m args below meth c A H locs ls ad ad0 n0 ok rep hl
  obtain ⟨hx, hb, hml, hr, hown, hin, hlocks, hts, hns, hK, hA⟩ := id ok
  obtain ⟨rP, rD, rS, rW, rN, rA, rX⟩ := id rep
  obtain ⟨hlk, w1, w3, w4, hd1, hd2, hd3⟩ := hw
  have hosA : mz_okS n As := fun v hv => hos v (List.mem_append_left _ (List.mem_reverse.mpr hv))
  have hosR : mz_okS n rest := fun v hv => hos v (List.mem_append_right _ hv)
  have hM := hc ad H.size rW hosA
  have hst : ((As.reverse ++ rest).map (mz_v ad)) = (As.map (mz_v ad)).reverse ++ rest.map (mz_v ad) := by
    rw [List.map_append, List.map_reverse]
  rw [hst]
  have hW2 : ((rest.map (mz_v ad)).map fun v => v.category).sum ≤ 8 := by
    rw [List.map_map, show ((fun v : Value => v.category) ∘ mz_v ad) = (fun v => v.category) from funext (mz_v_cat ad)]; exact hW
  have hps : PreS s H (mz_pc G X' ad H.size As n f) (As.map (mz_v ad)) := ⟨mz_pc_blind, mz_pc_at (vs := As) hns hK hA hX rep⟩
  rcases hlk with hlk | hlk
  · refine mz_cont (rm' := rm') (post' := post') (va_runS (As := As.map (mz_v ad)) (rest := rest.map (mz_v ad)) ⟨hx, hb, hml, hown, hts⟩ hM (va_cwS na hts (mz_goodIn (fun w hw => ?_)) rfl rfl rfl ⟨hd1, hd2, hd3⟩ hrm.1) hps rfl (by rw [List.length_map]; exact hna) hl.1 rfl (lv_room hW2) hd hrm.2) hrm.2 hol hosR ok rep hl kk
    rcases List.mem_append.mp hw with z | z
    · simp only [List.mem_cons, List.not_mem_nil, or_false] at z
      rcases z with rfl | rfl | rfl
      · exact hlk
      · exact w1
      · exact w3
    · exact mz_ws_in w4 w z
  · exact mz_cont (rm' := rm') (post' := post') (va_runSN (As := As.map (mz_v ad)) (rest := rest.map (mz_v ad)) ⟨hx, hb, hml, hown, hts⟩ hM ⟨va_cnB na hts (mz_goodIn (mz_ws_in w4)) rfl rfl rfl (hns _ hlk) (hts _ w3) ⟨hd1, hd2, hd3⟩ hrm.1, hts _ w1, trivial⟩ hps rfl (by rw [List.length_map]; exact hna) hl.1 rfl (lv_room hW2) hd hrm.2) hrm.2 hol hosR ok rep hl kk
theorem mz_callI {b na : Nat} (hd : decode cc pc = .ok (.invokespecial idx, 3)) (hw : mz_ci cn idx y cc' nL' na) (hna : As.length = na) (hX : ∀ a q, X' a = some q → X a = some q) (hc : mz_Ct G X' y cc' nL' none rm' (.ref b :: As) n f post') (hrm : mz_rmOk rm rm' nL' k1 k2) (hW : (rest.map fun v => v.category).sum ≤ 8)
    {st : List Value} (hst : st = As.reverse ++ .ref b :: rest) (kk : ∀ v n' f', post' v n' f' → mz_X G X cn ini cc nL ret rm post thr (pc + 3) l (v.toList ++ rest) (k1 + rm'.cells) (k2 + rm'.slots) n' f') : mz_X G X cn ini cc nL ret rm post thr pc l st k1 k2 n f := by
  subst hst
  intro hk1 hk2 hol hos p e s m args below meth c A H locs ls ad ad0 n0 ok rep hl
  obtain ⟨hx, hb, hml, hr, hown, hin, hlocks, hts, hns, hK, hA⟩ := id ok
  obtain ⟨rP, rD, rS, rW, rN, rA, rX⟩ := id rep
  obtain ⟨hlk, w1, w2, w3, w4, hd1, hd2, hd3⟩ := hw
  have hosA : mz_okS n (.ref b :: As) := mz_okS_c (hos _ (List.mem_append_right _ List.mem_cons_self)) (fun v hv => hos v (List.mem_append_left _ (List.mem_reverse.mpr hv)))
  have hosR : mz_okS n rest := fun v hv => hos v (List.mem_append_right _ (List.mem_cons_of_mem _ hv))
  have hM := hc ad H.size rW hosA
  have hst : ((As.reverse ++ Value.ref b :: rest).map (mz_v ad)) = (As.map (mz_v ad)).reverse ++ .ref (ad b) :: rest.map (mz_v ad) := by
    rw [List.map_append, List.map_reverse]; rfl
  rw [hst]
  have hW2 : ((rest.map (mz_v ad)).map fun v => v.category).sum ≤ 8 := by
    rw [List.map_map, show ((fun v : Value => v.category) ∘ mz_v ad) = (fun v => v.category) from funext (mz_v_cat ad)]; exact hW
  have hps : PreS s H (mz_pc G X' ad H.size (.ref b :: As) n f) (.ref (ad b) :: As.map (mz_v ad)) := ⟨mz_pc_blind, mz_pc_at (vs := .ref b :: As) hns hK hA hX rep⟩
  rcases hlk with hlk | hlk
  · exact mz_cont (rm' := rm') (post' := post') (va_runI (As := As.map (mz_v ad)) (rest := rest.map (mz_v ad)) (b := ad b) ⟨hx, hb, hml, hown, hts⟩ hM (cwI na hts (mz_goodIn (mz_ws_in w4)) rfl rfl rfl (hts _ w3) (hts _ hlk) (hts _ w1) w2 ⟨hd1, hd2, hd3⟩ hrm.1) hps rfl (by rw [List.length_map]; exact hna) hl.1 rfl (lv_room hW2) hd hrm.2) hrm.2 hol hosR ok rep hl kk
  · exact mz_cont (rm' := rm') (post' := post') (va_runIN (As := As.map (mz_v ad)) (rest := rest.map (mz_v ad)) (b := ad b) ⟨hx, hb, hml, hown, hts⟩ hM ⟨va_cnB na hts (mz_goodIn (mz_ws_in w4)) rfl rfl rfl (hns _ hlk) (hts _ w3) ⟨hd1, hd2, hd3⟩ hrm.1, w2, hts _ w1⟩ hps rfl (by rw [List.length_map]; exact hna) hl.1 rfl (lv_room hW2) hd hrm.2) hrm.2 hol hosR ok rep hl kk
end MZC
