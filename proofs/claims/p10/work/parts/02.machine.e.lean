/-! new cells; Object.<init>; Math.max -/
theorem mz_dv (ad : Nat → Nat) (ty : FieldType) : mz_v ad (defaultValue ty) = defaultValue ty := by cases ty <;> rfl
theorem mz_dok (n : Nat) (ty : FieldType) : mz_okV n (defaultValue ty) := by cases ty <;> trivial
theorem mz_okC_mono {n m : Nat} (h : n ≤ m) {c : mz_C} (hc : mz_okC n c) : mz_okC m c := by
  rcases c with ⟨t, N, g | g | g | g | g⟩ | ⟨ci, fs⟩
  · trivial
  · trivial
  · trivial
  · trivial
  · exact fun j a hj => Nat.lt_of_lt_of_le (hc j a hj) h
  · exact fun v hv => mz_okV_mono h (hc v hv)
theorem mz_up_eq {ad : Nat → Nat} {n q : Nat} (hn : n < mz_e0) : ∀ k, k < n ∨ mz_e0 ≤ k → va_up ad n q k = ad k := fun k hk => by
  have : k ≠ n := by omega
  simp [va_up, this]
theorem mz_w_push {tA : Nat → ClassId} {ad : Nat → Nat} {n : Nat} {f : mz_H} (hwf : mz_wf n f) (hn : n < mz_e0) (q : Nat) {c : mz_C} : mz_w tA (va_up ad n q) (n + 1) (mz_u f n c) = mz_w tA ad n f ++ [(q, mz_e tA (va_up ad n q) c)] := by
  unfold mz_w
  rw [List.range_succ, List.map_append]
  congr 1
  · apply List.map_congr_left
    intro k hk
    have hk := List.mem_range.mp hk
    rw [mz_u_n (by omega), mz_up_eq hn k (Or.inl hk), mz_e_eq (mz_up_eq hn) (hwf.2.1 k)]
  · simp [mz_u_s, va_up]
theorem mz_wf_push {n : Nat} {f : mz_H} (h : mz_wf n f) (hn : n < mz_e0) {c : mz_C} (hc : mz_okC (n + 1) c) : mz_wf (n + 1) (mz_u f n c) := by
  refine ⟨hn, fun k => ?_, fun k hk => ?_⟩
  · by_cases e : k = n
    · rw [e, mz_u_s]; exact hc
    · rw [mz_u_n e]; exact mz_okC_mono (Nat.le_succ n) (h.2.1 k)
  · rw [mz_u_n (by omega)]; exact h.2.2 k (by omega)
section MZN
variable {G : mz_G} {X : mz_E} {cn : Nat} {ini : Bool} {cc : ByteArray} {nL : Nat} {ret : Option FieldType} {rm : Room} {post : Option Value → Nat → mz_H → Prop} {thr : String → Nat → mz_H → Prop} {pc : Nat} {l : mz_L} {r : List Value} {k1 k2 n : Nat} {f : mz_H} {idx : Nat}
/-- behind the making of a cell -/
theorem mz_made {p : Program} {e : Env} {s : State} {m : MethodId} {args : Array Value} {below : List Frame} {meth : Method} {c : Code} {A : Nat → Prop} {H H1 : Heap} {locs : List Loc} {ls : Array Slot} {ad ad0 : Nat → Nat} {n0 q N ln : Nat} {nc : mz_C}
    (hn : n < mz_e0) (hnc : mz_okC (n + 1) nc) (hol : mz_okL n l) (hos : mz_okS n r) (ok : mz_ok G cn ini cc nL ret A p s m args meth c) (rep : mz_rep G X A s ad ad0 n0 n f H locs) (hl : mz_lv ad ls nL l) (hk1 : k1 + 1 ≤ rm.cells) (hk2 : k2 + N ≤ rm.slots)
    (hP1 : va_P G.2.1 nm_Cl (mz_w G.2.2 ad n f ++ [(q, mz_e G.2.2 (va_up ad n q) nc)]) H1) (hD1 : va_D A (mz_w G.2.2 ad n f ++ [(q, mz_e G.2.2 (va_up ad n q) nc)])) (hS1 : va_S A s.heap H1 locs)
    (h : mz_X G X cn ini cc nL ret rm post thr (pc + ln) l (.ref n :: r) (k1 + 1) (k2 + N) (n + 1) (mz_u f n nc)) :
    W p G.1 e rm s m args below meth c H1 locs (k1 + 1) (k2 + N) (mz_Z G rm below A ad0 n0 post thr args s) (F0 m (pc + ln) ls (.ref q :: r.map (mz_v ad))) := by
  obtain ⟨rP, rD, rS, rW, rN, rA, rX⟩ := id rep
  have hup := mz_up_eq (ad := ad) (q := q) hn
  have eW := mz_w_push (tA := G.2.2) (ad := ad) rW hn q (c := nc)
  have hS : (Value.ref n :: r).map (mz_v (va_up ad n q)) = .ref q :: r.map (mz_v ad) := by
    rw [List.map_cons, mz_s_eq hup hos]
    show Value.ref (va_up ad n q n) :: _ = _
    simp [va_up]
  rw [← hS]
  refine h hk1 hk2 (fun v hv => mz_okV_mono (Nat.le_succ n) (hol v hv)) (mz_okS_c (Or.inl (Nat.lt_succ_self n)) (fun v hv => mz_okV_mono (Nat.le_succ n) (hos v hv))) p e s m args below meth c A H1 locs ls (va_up ad n q) ad0 n0 ok ⟨by rw [eW]; exact hP1, by rw [eW]; exact hD1, hS1, mz_wf_push rW hn hnc, by omega, fun k hk => ?_, mz_xt_ad (fun k hk => hup k (Or.inr hk)) rX⟩ (mz_lv_eq hup hol hl)
  rw [hup k (hk.imp (fun z => Nat.lt_of_lt_of_le z rN) id)]
  exact rA k hk
theorem mz_new {ci N : Nat} {C : String} {T : u_T} {fs : List Value} (hd : decode cc pc = .ok (.new idx, 3)) (hc : nm_Cl[ci]? = some (C, T, N)) (w : Cond.classLink (nm_Own cn) idx C ∈ nm_Ts ∧ Cond.instantiable C N ∈ nm_Ts ∧ Cond.initialized C ∈ nm_Ts) (hfs : (List.range N).map (fun j => defaultValue (nm_FTy ci j)) = fs) (hm1 : k1 + 1 ≤ rm.cells) (hm2 : k2 + N ≤ rm.slots) (hn : n < mz_e0)
    (h : mz_X G X cn ini cc nL ret rm post thr (pc + 3) l (.ref n :: r) (k1 + 1) (k2 + N) (n + 1) (mz_u f n (.inr (ci, fs)))) : mz_X G X cn ini cc nL ret rm post thr pc l r k1 k2 n f := by
  intro hk1 hk2 hol hos p e s m args below meth c A H locs ls ad ad0 n0 ok rep hl
  obtain ⟨hx, hb, hml, hr, hown, hin, hlocks, hts, hns, hK, hA⟩ := id ok
  obtain ⟨rP, rD, rS, rW, rN, rA, rX⟩ := id rep
  have hfs2 : ∀ ad : Nat → Nat, fs.map (mz_v ad) = fs := fun ad => by
    rw [← hfs, List.map_map]
    exact List.map_congr_left fun j _ => mz_dv ad _
  refine va_new hx hb hts (nm_Cl_ws hc) (nm_FTy ci) (nm_Cl_ty hc) hown (hts _ w.1) (hts _ w.2.1) (hts _ w.2.2) hK rP rD rS hA hc (fs := fs) (fun j hj => by
    rw [← hfs]
    simp [vp_V, List.getD_eq_getElem?_getD, List.getElem?_range hj]) hm1 hm2 hd (fun q H1 hP1 hD1 hS1 => ?_)
  have eE : mz_e G.2.2 (va_up ad n q) (.inr (ci, fs) : mz_C) = .inr (ci, fs) := by
    show Sum.inr (ci, fs.map (mz_v (va_up ad n q))) = _
    rw [hfs2]
  exact mz_made (ln := 3) (nc := .inr (ci, fs)) hn (fun v hv => by
    rw [← hfs] at hv
    obtain ⟨j, -, rfl⟩ := List.mem_map.mp hv
    exact mz_dok _ _) hol hos ok rep hl hm1 hm2 (by rw [eE]; exact hP1) (by rw [eE]; exact hD1) hS1 h
theorem mz_newa {at' : Jvm.ClassFile.ArrayType} {t N : Nat} {ty : FieldType} {a0 : vp_A} {x : Int32} (hd : decode cc pc = .ok (.newarray at', 2)) (hty : Jvm.Op.newarray.typeOf at' = ty) (ht : nm_Ty[t]? = some ty) (hprim : ∀ U cA, va_RA U cA ty = (U.vm.findClass ("[" ++ ty.toString) = some cA)) (w : Cond.arrayClass ty ∈ nm_Ts) (ha : ∀ cA : ClassId, vp_cell cA a0 = arrV cA N (fun _ => defaultValue ty)) (ha2 : ∀ ad, mz_a ad a0 = a0) (hok : mz_okC (n + 1) (.inl (t, a0))) (hx0 : ¬ x < 0) (hxN : x.toNatClampNeg = N) (hby : N * componentBytes ty ≤ 536870912) (hm1 : k1 + 1 ≤ rm.cells) (hm2 : k2 + N ≤ rm.slots) (hn : n < mz_e0)
    (h : mz_X G X cn ini cc nL ret rm post thr (pc + 2) l (.ref n :: r) (k1 + 1) (k2 + N) (n + 1) (mz_u f n (.inl (t, a0)))) : mz_X G X cn ini cc nL ret rm post thr pc l (.int x :: r) k1 k2 n f := by
  intro hk1 hk2 hol hos p e s m args below meth c A H locs ls ad ad0 n0 ok rep hl
  obtain ⟨hx, hb, hml, hr, hown, hin, hlocks, hts, hns, hK, hA⟩ := id ok
  obtain ⟨rP, rD, rS, rW, rN, rA, rX⟩ := id rep
  refine va_newa hx hb (by rw [hty]; exact hts _ w) hty hK rP rD rS hA ha hx0 hxN hby hm1 hm2 hd (fun q cA H1 hK1 hP1 hD1 hS1 => ?_)
  have e1 := (hK.2 t _ (mz_ty_get ht)).2
  have e2 := (hK1.2 (mz_ty G.2.2).length (cA, ty) (by rw [List.getElem?_append_right (Nat.le_refl _), Nat.sub_self]; rfl)).2
  rw [hprim] at e1 e2
  have e3 : G.2.2 t = cA := Option.some.inj (e1.symm.trans e2)
  have eE : mz_e G.2.2 (va_up ad n q) (.inl (t, a0) : mz_C) = .inl (cA, a0) := by
    show Sum.inl (G.2.2 t, mz_a (va_up ad n q) a0) = _
    rw [ha2, e3]
  exact mz_made (ln := 2) hn hok hol (mz_okS_tl hos) ok rep hl hm1 hm2 (by rw [eE]; exact hP1) (by rw [eE]; exact hD1) hS1 h
theorem mz_newq {C : String} {t N : Nat} {x : Int32} (hd : decode cc pc = .ok (.anewarray idx, 3)) (ht : nm_Ty[t]? = some (.object C)) (w : Cond.classLink (nm_Own cn) idx C ∈ nm_Ts ∧ Cond.arrayOver (.object C) ∈ nm_Ns) (hx0 : ¬ x < 0) (hxN : x.toNatClampNeg = N) (hby : N * 4 ≤ 536870912) (hm1 : k1 + 1 ≤ rm.cells) (hm2 : k2 + N ≤ rm.slots) (hn : n < mz_e0)
    (h : mz_X G X cn ini cc nL ret rm post thr (pc + 3) l (.ref n :: r) (k1 + 1) (k2 + N) (n + 1) (mz_u f n (.inl (t, N, .inr (.inr (.inr (.inr (fun _ => none)))))))) : mz_X G X cn ini cc nL ret rm post thr pc l (.int x :: r) k1 k2 n f := by
  intro hk1 hk2 hol hos p e s m args below meth c A H locs ls ad ad0 n0 ok rep hl
  obtain ⟨hx, hb, hml, hr, hown, hin, hlocks, hts, hns, hK, hA⟩ := id ok
  obtain ⟨rP, rD, rS, rW, rN, rA, rX⟩ := id rep
  refine va_newq hx hb hown (hts _ w.1) (hns (Cond.arrayOver (.object C)) w.2) hK rP rD rS hA hx0 hxN hby hm1 hm2 hd (fun q cA H1 hK1 hP1 hD1 hS1 => ?_)
  obtain ⟨_, _, _, _, _, e1⟩ := (hK.2 t _ (mz_ty_get ht)).2
  obtain ⟨_, _, _, _, _, e2⟩ := (hK1.2 (mz_ty G.2.2).length (cA, .object C) (by rw [List.getElem?_append_right (Nat.le_refl _), Nat.sub_self]; rfl)).2
  have e3 : G.2.2 t = cA := Option.some.inj (e1.symm.trans e2)
  have eE : mz_e G.2.2 (va_up ad n q) (.inl (t, N, .inr (.inr (.inr (.inr (fun _ => none))))) : mz_C) = .inl (cA, N, .inr (.inr (.inr (.inr (fun _ => none))))) := by
    show Sum.inl (G.2.2 t, N, _) = _
    rw [e3]; rfl
  exact mz_made (ln := 3) (nc := .inl (t, N, .inr (.inr (.inr (.inr (fun _ => none)))))) hn (fun j a hj => by cases hj) hol (mz_okS_tl hos) ok rep hl hm1 hm2 (by rw [eE]; exact hP1) (by rw [eE]; exact hD1) hS1 h
theorem mz_objInit {a : Nat} (hd : decode cc pc = .ok (.invokespecial idx, 3)) (w : Cond.methodLink (nm_Own cn) idx objectInit ∈ nm_Ts ∧ Cond.instanceMethod objectInit ∈ nm_Ts ∧ Cond.code objectInit ⟨#[0xb1]⟩ 1 none ∈ nm_Ts) (hf : 1 ≤ rm.frames) (hlo : (r.map fun v => v.category).sum + 12 ≤ rm.locals)
    (h : mz_X G X cn ini cc nL ret rm post thr (pc + 3) l r k1 k2 n f) : mz_X G X cn ini cc nL ret rm post thr pc l (.ref a :: r) k1 k2 n f := by
  intro hk1 hk2 hol hos p e s m args below meth c A H locs ls ad ad0 n0 ok rep hl
  obtain ⟨hx, hb, hml, hr, hown, hin, hlocks, hts, hns, hK, hA⟩ := id ok
  refine W.objInit (a := ad a) (rest := r.map (mz_v ad)) hx hb hown (hts _ w.1) (hts _ w.2.1) (hts _ w.2.2) rfl (by rw [hml]; exact hl.1) rfl hd hf ?_ ?_
  · show 2 * 0 + ((r.map (mz_v ad)).map fun v => v.category).sum + 12 ≤ _
    rw [List.map_map, show ((fun v : Value => v.category) ∘ mz_v ad) = (fun v => v.category) from funext (mz_v_cat ad)]; omega
  · exact h hk1 hk2 hol (mz_okS_tl hos) p e s m args below meth c A H locs ls ad ad0 n0 ok rep hl
theorem mz_mmax {x y : Int32} (hd : decode cc pc = .ok (.invokestatic idx, 3)) (w : Cond.methodLink (nm_Own cn) idx Lib.Math.max.name ∈ nm_Ts ∧ Cond.static Lib.Math.max.name ∈ nm_Ts ∧ Cond.initialized "java/lang/Math" ∈ nm_Ts ∧ Cond.code Lib.Math.max.name Lib.Math.max.code 2 (some .int) ∈ nm_Ts) (hf : 1 ≤ rm.frames) (hlo : (r.map fun v => v.category).sum + 13 ≤ rm.locals)
    (h : mz_X G X cn ini cc nL ret rm post thr (pc + 3) l (.int (if x < y then y else x) :: r) k1 k2 n f) : mz_X G X cn ini cc nL ret rm post thr pc l (.int y :: .int x :: r) k1 k2 n f := by
  intro hk1 hk2 hol hos p e s m args below meth c A H locs ls ad ad0 n0 ok rep hl
  obtain ⟨hx, hb, hml, hr, hown, hin, hlocks, hts, hns, hK, hA⟩ := id ok
  refine va_mmax hx hb (by rw [hml]; exact hl.1.symm) hown (hts _ w.1) (hts _ w.2.1) (hts _ w.2.2.1) (hts _ w.2.2.2) hf ?_ hk1 hk2 hd ?_
  · rw [List.map_map, show ((fun v : Value => v.category) ∘ mz_v ad) = (fun v => v.category) from funext (mz_v_cat ad)]; omega
  · exact h hk1 hk2 hol (mz_okS_c trivial (mz_okS_tl (mz_okS_tl hos))) p e s m args below meth c A H locs ls ad ad0 n0 ok rep hl
end MZN
