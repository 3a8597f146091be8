/-! the law, from its entry -/
theorem nm_Cl_inst {k : Nat} {q : vw_C} (h : nm_Cl[k]? = some q) : Cond.instantiable q.1 q.2.2 ∈ nm_Ts := by
  match k, h with
  | 0, h => cases h; exact w_new_13_8.2.1
  | 1, h => cases h; exact w_new_0_15.2.1
  | 2, h => cases h; exact w_new_0_74.2.1
  | 3, h => cases h; exact w_new_0_39.2.1
  | 4, h => cases h; exact w_new_0_9.2.1
  | 5, h => cases h; exact w_new_0_25.2.1
  | 6, h => cases h; exact w_new_8_9.2.1
  | 7, h => cases h; exact w_new_10_15.2.1
  | 8, h => cases h; exact w_new_0_46.2.1
  | 9, h => cases h; exact w_new_0_32.2.1
  | 10, h => cases h; exact w_new_0_53.2.1
  | 11, h => cases h; exact w_new_13_55.2.1
  | k + 12, h => exact absurd (List.getElem?_eq_some_iff.mp h).1 (by simp [nm_Cl])
theorem nm_Ts_tbl {w : Cond} (h : w ∈ nm_Ts) : w ∈ lw_tbl := (List.mem_filter.mp h).1
theorem nm_Ns_tbl {w : Cond} (h : w ∈ nm_Ns) (hne : w ≠ nm_Xw) : w ∈ lw_tbl := by
  rcases List.mem_cons.mp (List.mem_filter.mp h).1 with q | q
  · exact absurd q hne
  · exact List.mem_append_right _ q
/-- the classes -/
theorem st_cl {s : State} {args : Array Value} (hts : ∀ w ∈ lw_tbl, w.before args s = true) : ∃ D : va_G, ∀ (k : Nat) (q : vw_C), nm_Cl[k]? = some q → u_Kn s q.1 q.2.1 q.2.2 (D.1 k) (D.2 k) := by
  have hcl : ∀ k : Nat, ∃ (x : ClassId × (Nat → Nat)), ∀ q, nm_Cl[k]? = some q → u_Kn s q.1 q.2.1 q.2.2 x.1 x.2 := by
    intro k
    cases hq : nm_Cl[k]? with
    | none => exact ⟨(0, fun _ => 0), fun q h => by cases h⟩
    | some q =>
      obtain ⟨cC, iS, h⟩ := u_known (C := q.1) (T := q.2.1) (N := q.2.2) (n := q.2.2) hts (fun w hw => nm_Ts_tbl (nm_Cl_ws (ci := k) (C := q.1) (T := q.2.1) (N := q.2.2) hq w hw)) (hts _ (nm_Ts_tbl (nm_Cl_inst hq)))
      exact ⟨(cC, iS), fun q' h' => by cases h'; exact h⟩
  obtain ⟨F, hF⟩ := Classical.axiomOfChoice hcl
  exact ⟨(fun k => (F k).1, fun k => (F k).2), fun k q h => hF k q h⟩
/-- the classes of arrays -/
theorem st_prim {s : State} {args : Array Value} {ty : FieldType} (h : (Cond.arrayClass ty).before args s = true) (hp : ∀ cA, va_RA s cA ty = (s.vm.findClass ("[" ++ ty.toString) = some cA)) : ∃ cA : ClassId, ArrOfT s cA ty ∧ va_RA s cA ty := by
  obtain ⟨cA, kA, comp, h1, h2, h3⟩ := Cond.arrayClass_spec h
  exact ⟨cA, fun n z => ⟨fun k h => (by cases h), kA, h2, comp, h3⟩, by rw [hp]; exact h1⟩
theorem st_obj {s : State} {args : Array Value} {C : String} (h : (Cond.arrayOver (.object C)).before args s = true) : ∃ cA : ClassId, ArrOfT s cA (.object C) ∧ va_RA s cA (.object C) := by
  obtain ⟨comp, c, k, h1, h2, h3, h4, h5⟩ := Cond.arrayOver_spec h
  exact ⟨c, fun n z => ⟨fun k h => (by cases h), k, h3, comp, h4⟩, k, comp, h3, h4, h1, h5⟩
theorem st_arr {s : State} {args : Array Value} (h : (Cond.arrayOver (.array .int)).before args s = true) : ∃ cA : ClassId, ArrOfT s cA (.array .int) ∧ va_RA s cA (.array .int) := by
  obtain ⟨comp, c, k, h1, h2, h3, h4, h5⟩ := Jvm.Stand.arrayOver_specB h
  exact ⟨c, fun n z => ⟨fun k h => (by cases h), k, h3, comp, h4⟩, h5⟩
theorem st_ty {s : State} {args : Array Value} (hts : ∀ w ∈ lw_tbl, w.before args s = true) : ∃ tA : Nat → ClassId, ∀ (t : Nat) (ty : FieldType), nm_Ty[t]? = some ty → ArrOfT s (tA t) ty ∧ va_RA s (tA t) ty := by
  have hty : ∀ t : Nat, ∃ cA : ClassId, ∀ ty, nm_Ty[t]? = some ty → ArrOfT s cA ty ∧ va_RA s cA ty := by
    intro t
    match t with
    | 0 => obtain ⟨c, h⟩ := st_prim (hts _ (nm_Ts_tbl w_arr_int)) (fun _ => rfl); exact ⟨c, fun ty q => by cases q; exact h⟩
    | 1 => obtain ⟨c, h⟩ := st_prim (hts _ (nm_Ts_tbl w_arr_byte)) (fun _ => rfl); exact ⟨c, fun ty q => by cases q; exact h⟩
    | 2 => obtain ⟨c, h⟩ := st_prim (hts _ (nm_Ts_tbl w_arr_short)) (fun _ => rfl); exact ⟨c, fun ty q => by cases q; exact h⟩
    | 3 => obtain ⟨c, h⟩ := st_prim (hts _ (nm_Ts_tbl w_arr_long)) (fun _ => rfl); exact ⟨c, fun ty q => by cases q; exact h⟩
    | 4 => obtain ⟨c, h⟩ := st_obj (hts _ (nm_Ns_tbl w_anew_0_9.2 (by intro q; cases q))); exact ⟨c, fun ty q => by cases q; exact h⟩
    | 5 => obtain ⟨c, h⟩ := st_obj (hts _ (nm_Ns_tbl w_anew_0_15.2 (by intro q; cases q))); exact ⟨c, fun ty q => by cases q; exact h⟩
    | 6 => obtain ⟨c, h⟩ := st_obj (hts _ (nm_Ns_tbl w_anew_4_9.2 (by intro q; cases q))); exact ⟨c, fun ty q => by cases q; exact h⟩
    | 7 => obtain ⟨c, h⟩ := st_arr (hts _ (nm_Ns_tbl w_mna2 (by intro q; cases q))); exact ⟨c, fun ty q => by cases q; exact h⟩
    | t + 8 => exact ⟨0, fun ty q => absurd (List.getElem?_eq_some_iff.mp q).1 (by simp [nm_Ty])⟩
  exact Classical.axiomOfChoice hty
theorem st_K {s : State} {D : va_G} {tA : Nat → ClassId} (h1 : ∀ (k : Nat) (q : vw_C), nm_Cl[k]? = some q → u_Kn s q.1 q.2.1 q.2.2 (D.1 k) (D.2 k)) (h2 : ∀ (t : Nat) (ty : FieldType), nm_Ty[t]? = some ty → ArrOfT s (tA t) ty ∧ va_RA s (tA t) ty) : va_K D nm_Cl (mz_ty tA) s := by
  refine ⟨h1, fun k q hk => ?_⟩
  have hk8 : k < nm_Ty.length := by
    have := (List.getElem?_eq_some_iff.mp hk).1
    unfold mz_ty at this
    simpa using this
  obtain ⟨ty, hty⟩ : ∃ ty, nm_Ty[k]? = some ty := ⟨nm_Ty[k], List.getElem?_eq_getElem hk8⟩
  have e := mz_ty_get (tA := tA) hty
  cases hk.symm.trans e
  exact h2 k ty hty
/-- what was written is new -/
theorem st_new {s t : State} {L : List Loc} {k n : Nat} (h : s.sameButNew t L k n) (hL : ∀ q ∈ L, s.heap.size ≤ q.base) : s.sameButNew t [] k n := by
  obtain ⟨h1, h2, h3, h4, h5, h6⟩ := h
  refine ⟨h1, h2, h3, h4, h5, fun a c hc => ?_⟩
  obtain ⟨c', q1, q2, q3, q4⟩ := h6 a c hc
  refine ⟨c', q1, q2, q3, fun i _ => q4 i (fun hm => ?_)⟩
  have := hL _ hm
  have hlt := (Array.getElem?_eq_some_iff.mp hc).1
  exact absurd hlt (Nat.not_lt.mpr this)
/-- the static array of powers -/
theorem st_pw {s : State} {b : Nat} (hgv : (Jvm.Cond.and given_1 narrow_1).before #[Value.ref b] s = true) : ∃ t : Nat, (Term.static "CardOffice" "POWERS" "[I").eval #[Value.ref b] s none [] s = some (.ref t) ∧ va_T .int t 7 (fun j => .int (mk_pw j)) (fun q : Nat => s.heap.size ≤ q) s s.heap := by
  have hs := flat_of_before _ hgv
  have e0 := va_eqt (hs (.eq (.elem (.static "CardOffice" "POWERS" "[I") (.int 0)) (.int 1)) (by decide +kernel))
  have e1 := va_eqt (hs (.eq (.elem (.static "CardOffice" "POWERS" "[I") (.int 1)) (.int 10)) (by decide +kernel))
  have e2 := va_eqt (hs (.eq (.elem (.static "CardOffice" "POWERS" "[I") (.int 2)) (.int 100)) (by decide +kernel))
  have e3 := va_eqt (hs (.eq (.elem (.static "CardOffice" "POWERS" "[I") (.int 3)) (.int 1000)) (by decide +kernel))
  have e4 := va_eqt (hs (.eq (.elem (.static "CardOffice" "POWERS" "[I") (.int 4)) (.int 10000)) (by decide +kernel))
  have e5 := va_eqt (hs (.eq (.elem (.static "CardOffice" "POWERS" "[I") (.int 5)) (.int 100000)) (by decide +kernel))
  have e6 := va_eqt (hs (.eq (.elem (.static "CardOffice" "POWERS" "[I") (.int 6)) (.int 1000000)) (by decide +kernel))
  have el := va_eqt (hs (.eq (.length (.static "CardOffice" "POWERS" "[I")) (.int 7)) (by decide +kernel))
  refine va_Tof (N := 7) (by decide) (hs (.arrayOf (.static "CardOffice" "POWERS" "[I") .int) (by decide +kernel)) el (fun j hj => ?_) (fun a ha => Nat.not_le.mpr ha)
  match j, hj with
  | 0, _ => exact e0
  | 1, _ => exact e1
  | 2, _ => exact e2
  | 3, _ => exact e3
  | 4, _ => exact e4
  | 5, _ => exact e5
  | 6, _ => exact e6
  | k + 7, h => exact absurd h (by omega)
theorem st_Ns {s : State} {args : Array Value} (hts : ∀ w ∈ lw_tbl, w.before args s = true) (hX : nm_Xw.before args s = true) : ∀ w ∈ nm_Ns, va_Nw w s := by
  intro w hw
  have h : w.before args s = true := by
    by_cases e : w = nm_Xw
    · rw [e]; exact hX
    · exact hts w (nm_Ns_tbl hw e)
  have h2 := (List.mem_filter.mp hw).2
  cases w <;> first | (cases h2; done) | exact va_Nw.of rfl h | exact h | (rename_i w9; cases w9 <;> first | (cases h2; done) | exact h)
