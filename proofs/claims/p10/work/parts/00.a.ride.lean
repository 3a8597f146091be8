/-! words that ride along a walk -/
theorem th_ride {w : Cond} (hr : Jvm.Free.Str.ridesW w = true) (ho : w.onTables = true) {s U : State} (hW : s.WarmedH U.vm) (h : va_Nw w s) : va_Nw w U :=
  va_tabs (A := #[]) ho (rfl : (s.setVm U.vm).vm = U.vm) (Jvm.Free.Str.rides_of_W w hr (s := s) (U := s.setVm U.vm) hW (Jvm.Free.Str.KeepsShape.of_heap rfl) h)
theorem th_rideD {x : MethodName} {s U : State} (hW : s.WarmedH U.vm) (h : va_Nw (.declares x) s) : va_Nw (.declares x) U := th_ride rfl rfl hW h
theorem th_sv {c t : String} {i : Nat} {s : State} {a : Array Value} : (Cond.stringRef c i t).before a s = (((s.vm.findClass c).map fun _ => s.names c i (.string t) && match s.resolvedAt? c i with
      | some (.string _) => true
      | _ => false) == some true) := rfl
theorem th_sref {c t : String} {i : Nat} {s U : State} (hW : s.WarmedH U.vm) (h : va_Nw (.stringRef c i t) s) : va_Nw (.stringRef c i t) U := by
  have h2 := Cond.stringRef_warmed hW h
  rw [th_sv] at h2
  unfold va_Nw
  rw [th_sv]
  exact h2
theorem th_sargs {c t : String} {i : Nat} {s : State} {args : Array Value} (h : va_Nw (.stringRef c i t) s) : (Cond.stringRef c i t).before args s = true := by
  unfold va_Nw at h
  rw [th_sv] at h ⊢
  exact h
theorem th_ncast {C D : String} {s U : State} (hvm : s.vm.Alike U.vm) (h : va_Nw (.not (.castable C D)) s) : va_Nw (.not (.castable C D)) U := by
  unfold va_Nw Cond.before Cond.holds at h ⊢
  simp only [Cond.value, hvm.findClass, hvm.assignable] at h ⊢
  exact h
theorem th_aoa {t : FieldType} {u U : State} (hvm : u.vm.Alike U.vm) (h : va_Nw (.arrayOver (.array t)) u) : va_Nw (.arrayOver (.array t)) U := by
  obtain ⟨comp, c, k, h1, h2, h3, h4, h5⟩ := Jvm.Stand.arrayOver_specB h
  obtain ⟨k', hk', he⟩ := hvm.2.2 _ _ h3
  have hi : (U.vm.classes.findIdx? fun (x : Class) => match x.kind with | .array component _ => component == comp | _ => false) = some c := by
    refine Eq.trans (va_idx_bare U.vm comp).symm ?_
    first | rw [hvm.bare_eq] | rw [← hvm.bare_eq]
    exact (va_idx_bare u.vm comp).trans h2
  have hkind : k'.kind = .array comp (.array t) := by rw [he]; exact h4
  have f1 : U.vm.findClass (FieldType.array t).toString = some comp := by rw [hvm.findClass]; exact h1
  have f2 : U.vm.findClass ("[" ++ (FieldType.array t).toString) = some c := by rw [hvm.findClass]; exact h5
  unfold va_Nw Cond.before Cond.holds
  simp only [Cond.value]
  rw [f1, Option.bind_some]
  refine (congrArg (fun o : Option Nat => (o.bind (fun c => (U.vm.classes[c]?).map fun (k : Class) => match k.kind with | .array _ ty => decide (ty = FieldType.array t) && decide (U.vm.findClass ("[" ++ (FieldType.array t).toString) = some c) | _ => false) == some true)) hi).trans ?_
  simp [hk', hkind, f2]
/-- a static reference of Throwable: laid, and known -/
def th_lz (C n d : String) (A : Nat → Prop) (s : State) (H : Heap) : Prop := (Cond.laysStatic C n d).before #[] ({ s with heap := H } : State) = true ∧ va_Zq C n d A s H
theorem th_lz_zq {C n d : String} {A : Nat → Prop} {s : State} {H : Heap} (h : va_Zq C n d A s H) : ∃ (cf : ClassId) (kf : Class) (fi : Nat) (f : Field) (a : Nat) (cell : Cell), s.fieldFound? C n d = some (cf, kf, fi, f) ∧ f.isStatic = true ∧ kf.init = .initialized ∧ kf.statics = some a ∧ H[a]? = some cell ∧ cell.vm.isStatics = true ∧ (∃ v, cell.slots[f.slot]? = some v ∧ v.isRef = true) ∧ ¬ A a := by
  rcases h with ⟨cf, kf, fi, f, a, cell, h1, h2, h3, h4, h5, h6, h7, h8⟩ | ⟨t, cf, kf, fi, f, a, cell, h1, h2, h3, h4, h5, h6, h7, h8⟩
  · exact ⟨cf, kf, fi, f, a, cell, h1, h2, h3, h4, h5, h6, ⟨_, h7, rfl⟩, h8⟩
  · exact ⟨cf, kf, fi, f, a, cell, h1, h2, h3, h4, h5, h6, ⟨_, h7, rfl⟩, h8⟩
theorem th_lz_isRef {C n d : String} {A : Nat → Prop} {s : State} {args : Array Value} (h : th_lz C n d A s s.heap) : (Cond.isRef (.static C n d)).before args s = true := by
  obtain ⟨cf, kf, fi, f, a, cell, h1, h2, h3, h4, h5, h6, ⟨v, h7, h8⟩, h9⟩ := th_lz_zq h.2
  simp [Cond.before, Cond.holds, Cond.value, Term.eval, State.fieldNamed?, h1, h2, h4, h5, h6, h7]
  cases v <;> first | rfl | (cases h8)
theorem th_lz_lays {C n d : String} {A : Nat → Prop} {s : State} {args : Array Value} (h : th_lz C n d A s s.heap) : (Cond.laysStatic C n d).before args s = true :=
  Jvm.Free.Str.laysStatic_rides (Vm.Alike.refl _) (Jvm.Free.Str.KeepsShape.of_heap rfl) h.1
theorem th_lz_moved {C n d : String} {A A' : Nat → Prop} {s U : State} {H : Heap} (hvm : s.vm.Alike U.vm) (hk : ∀ q : Nat, q < s.heap.size → ¬ A q → H[q]? = s.heap[q]?) (hAA : ∀ q, A' q → A q) (h : th_lz C n d A s s.heap) : th_lz C n d A' U H := by
  refine ⟨?_, va_Zq.moved hvm ((h.2.kept hk).narrow hAA)⟩
  obtain ⟨cf, kf, fi, f, a, cell, h1, h2, h3, h4, h5, h6, -, h9⟩ := th_lz_zq h.2
  obtain ⟨c, k, i, fd, st, cell', hc, hf, hst, hsta, hcell, hiss, hcls, hlt, hty⟩ := Cond.laysStatic_spec h.1
  have e1 : some (cf, kf, fi, f) = some (c, k, i, fd) := h1.symm.trans hf
  have ek : kf = k := by injection e1 with e1; injection e1 with _ e1; injection e1
  have ea : a = st := Option.some.inj (h4.symm.trans (by rw [ek]; exact hsta))
  have hlt0 : a < s.heap.size := (Array.getElem?_eq_some_iff.mp h5).1
  have hH : H[st]? = some cell' := by rw [← ea, hk a hlt0 h9, ea]; exact hcell
  obtain ⟨k', hf', he⟩ := State.fieldFound?_setVm hvm hf
  have hfU : ({ U with heap := H } : State).fieldFound? C n d = some (c, k', i, fd) := hf'
  have hc' : U.vm.findClass C = some c := by rw [hvm.findClass]; exact hc
  have hsta' : k'.statics = some st := by rw [he]; exact hsta
  have hty' : k'.staticTypes[fd.slot]? = some fd.type := by rw [he]; exact hty
  simp [Cond.before, Cond.holds, Cond.value, hc', hfU, hst, hsta', hH, hiss, hcls, hlt, hty']
